/-! ===== throws and calls ===== -/
theorem ab_goodIn {ws : List Cond} (h : ∀ w ∈ ws, w ∈ ab_all) : GoodIn ab_all ws := fun w hw => ⟨h w hw, good_of_word (List.all_eq_true.mp ab_good w (h w hw))⟩
abbrev ab_names : List String := ["java/lang/RuntimeException", "java/lang/Exception"]
theorem ab_notab {c : Code} {M : ab_M} (h : c.exceptionTable.toList = tableOf M.2.2.2.2.2.2.1) (hM : M.2.2.2.2.2.2.1 = []) (pc : Nat) : ∀ x ∈ c.exceptionTable.toList, covers x pc = false := by
  rw [h, hM]
  intro x hx
  cases hx
theorem ab_Rep_grow {K : ab_K} {s : State} {σ : ab_S} {H H1 : Heap} (h : ab_Rep K s σ H) (hk : ∀ q : Nat, q < H.size → H1[q]? = H[q]?) : ab_Rep K s σ H1 := by
  obtain ⟨⟨ws, hP, hD, hi⟩, ht⟩ := h
  exact ⟨⟨ws, hP.kept (fun k y hy => hk y.1 ((hP k y hy).lt)), hD, hi⟩, ht⟩
def ab_OkT (M : ab_M) (pc E : Nat) : Prop := ∀ (K : ab_K) (p : Program) (l : Launch) (e : Env) (R : Room) (s : State) (m : MethodId) (args : Array Value) (below : List Frame) (meth : Method) (c : Code), ab_X M K p l R s m args meth c → 6 ≤ M.2.2.2.2.1 → M.2.2.2.2.2.2.1 = [] →
  ∀ (H : Heap) (locs : List Loc) (ls' : Array Slot) (cells slots mc ms : Nat) (g : ab_G) (σ : ab_S) (Qc : Array Value → State → Outcome → State → Prop), ab_RW K s (g, σ) H → va_S (ab_A K) s.heap H locs → ls'.size = c.maxLocals → cells + 1 ≤ R.cells → slots + 6 ≤ R.slots → cells + 1 ≤ mc → slots + 6 ≤ ms →
  W p l e R s m args below meth c H locs cells slots (vx_MQ below Qc (ab_Xc K E (ab_th g, σ)) args s mc ms (ab_A K)) (F0 m pc ls' [])
section AbThrow
variable {M : ab_M} {pc : Nat}
theorem ab_thx {K : ab_K} {s : State} {g : ab_G} {σ : ab_S} {H : Heap} {locs : List Loc} {E : Nat} (hR : ab_RW K s (g, σ) H) (hS : va_S (ab_A K) s.heap H locs) : ∀ t : State, s.vm.Alike t.vm → H.size ≤ t.heap.size → (∀ q : Nat, q < H.size → t.heap[q]? = H[q]?) → ab_Xc K E (ab_th g, σ) (ab_exc E) s t := by
  intro t h1 h2 h3
  have hS1 : va_S (ab_A K) s.heap t.heap [] := ⟨Nat.le_trans hS.1 h2, fun q h4 h5 => (h3 q (Nat.lt_of_lt_of_le h4 hS.1)).trans (hS.2.1 q h4 h5), fun _ h => by cases h⟩
  exact ⟨rfl, ⟨ab_Rep_warm h1 hS1 rfl (ab_Rep_grow hR.1 h3), fun h => by cases h⟩, hS1.1, hS1.2.1⟩
theorem sn_throwS {E ik is ic : Nat} {text : String} (hst : (is, text) ∈ ab_strs) (hcl : M.1.cls = "TempoPlayer") (hE : Bundle.fit (ab_exc E) = true) (w1 : Cond.classLink "TempoPlayer" ik (ab_exc E) ∈ ab_all) (w2 : Cond.initialized (ab_exc E) ∈ ab_all) (w3 : ∀ w ∈ vx_atS "TempoPlayer" ic (ab_exc E) ab_names, w ∈ ab_all ∨ w ∈ ab_odd)
    (hgood : ∀ w ∈ Cond.classLink "TempoPlayer" ik (ab_exc E) :: Cond.initialized (ab_exc E) :: vx_atS "TempoPlayer" ic (ab_exc E) ab_names, vx_ot w = true)
    (d0 : decode M.2.1 pc = .ok (.new ik, 3)) (d3 : decode M.2.1 (pc + 3) = .ok (.dup, 1)) (d4 : decode M.2.1 (pc + 4) = .ok (.ldc is, 2)) (d6 : decode M.2.1 (pc + 6) = .ok (.invokespecial ic, 3)) (d9 : decode M.2.1 (pc + 9) = .ok (.athrow, 1)) : ab_OkT M pc E := by
  intro K p l e R s m args below meth c X hdp hno H locs ls' cells slots mc ms g σ Qc hR hS hsz h1 h2 h3 h4
  have hts := X.2.2.2.2.2.1
  have hEn := X.2.2.2.2.2.2.2.2.1
  have hdp1 := X.2.2.2.2.2.2.2.2.2.1
  have hdp2 := X.2.2.2.2.2.2.2.2.2.2.1
  have hown := X.2.2.2.2.1
  rw [hcl] at hown
  obtain ⟨sa, hsa⟩ := hEn.2.1 _ hst
  exact vx_throwS (A := ab_A K) X.1 X.2.1 X.2.2.2.2.2.2.2.2.2.2.2.2.1 hown hE (by decide +kernel) (hts _ w1) (hts _ w2) hsa (fun w hw => by
      rcases w3 w hw with h | h
      · exact hts _ h
      · exact va_Nw.use (by
          have h2 : ab_oddk w = true := (List.mem_filter.mp h).2
          cases w <;> first | (cases h2; done) | rfl) (hEn.1 _ h)) hgood hEn.2.2.1 hEn.2.2.2.1 hS hsz d0 d3 d4 d6 d9 (ab_notab X.2.2.2.2.2.2.2.2.2.2.2.1 hno _)
    (by show 5 < R.frames; omega) (by show 0 + (13 * 3 + 43) ≤ R.locals; omega) h1 h2 X.2.2.2.2.2.2.1 (ab_thx hR hS) (fun z hz => hS.2.2 z hz) h3 h4
theorem sn_throwSW {E ik is ic : Nat} {text : String} (hst : (is, text) ∈ ab_strs) (hcl : M.1.cls = "TempoPlayer") (hE : Bundle.fit (ab_exc E) = true) (w1 : Cond.classLink "TempoPlayer" ik (ab_exc E) ∈ ab_all) (w2 : Cond.initialized (ab_exc E) ∈ ab_all) (w3 : ∀ w ∈ vx_atS "TempoPlayer" ic (ab_exc E) ab_names, w ∈ ab_all ∨ w ∈ ab_odd)
    (hgood : ∀ w ∈ Cond.classLink "TempoPlayer" ik (ab_exc E) :: Cond.initialized (ab_exc E) :: vx_atS "TempoPlayer" ic (ab_exc E) ab_names, vx_ot w = true)
    (d0 : decode M.2.1 pc = .ok (.new ik, 3)) (d3 : decode M.2.1 (pc + 3) = .ok (.dup, 1)) (d4 : decode M.2.1 (pc + 4) = .ok (.ldc_w is, 3)) (d7 : decode M.2.1 (pc + 7) = .ok (.invokespecial ic, 3)) (d10 : decode M.2.1 (pc + 10) = .ok (.athrow, 1)) : ab_OkT M pc E := by
  intro K p l e R s m args below meth c X hdp hno H locs ls' cells slots mc ms g σ Qc hR hS hsz h1 h2 h3 h4
  have hts := X.2.2.2.2.2.1
  have hEn := X.2.2.2.2.2.2.2.2.1
  have hdp1 := X.2.2.2.2.2.2.2.2.2.1
  have hdp2 := X.2.2.2.2.2.2.2.2.2.2.1
  have hown := X.2.2.2.2.1
  rw [hcl] at hown
  obtain ⟨sa, hsa⟩ := hEn.2.1 _ hst
  exact vx_throwSW (A := ab_A K) X.1 X.2.1 X.2.2.2.2.2.2.2.2.2.2.2.2.1 hown hE (by decide +kernel) (hts _ w1) (hts _ w2) hsa (fun w hw => by
      rcases w3 w hw with h | h
      · exact hts _ h
      · exact va_Nw.use (by
          have h2 : ab_oddk w = true := (List.mem_filter.mp h).2
          cases w <;> first | (cases h2; done) | rfl) (hEn.1 _ h)) hgood hEn.2.2.1 hEn.2.2.2.1 hS hsz d0 d3 d4 d7 d10 (ab_notab X.2.2.2.2.2.2.2.2.2.2.2.1 hno _)
    (by show 5 < R.frames; omega) (by show 0 + (13 * 3 + 43) ≤ R.locals; omega) h1 h2 X.2.2.2.2.2.2.1 (ab_thx hR hS) (fun z hz => hS.2.2 z hz) h3 h4
end AbThrow
/-! calls -/
def ab_rm (Y : ab_M) (mc ms : Nat) : Room := { frames := Y.2.2.2.2.1, cells := mc, slots := ms, locals := 36 * Y.2.2.2.2.1 }
def ab_wd (Y : ab_M) : Cond := match Y.2.2.2.2.2.2.1 with
  | [] => .code Y.1 Y.2.1 Y.2.2.1 Y.2.2.2.1
  | hh => .codeWith Y.1 Y.2.1 Y.2.2.1 Y.2.2.2.1 hh
def ab_ws (Y : ab_M) : List Cond := ab_wd Y :: ab_all
theorem ab_ws_0 {Y : ab_M} (h : Y.2.2.2.2.2.2.1 = []) : ab_ws Y = .code Y.1 Y.2.1 Y.2.2.1 Y.2.2.2.1 :: ab_all := by
  unfold ab_ws ab_wd
  rw [h]
theorem ab_ws_1 {Y : ab_M} (h : Y.2.2.2.2.2.2.1 ≠ []) : ab_ws Y = .codeWith Y.1 Y.2.1 Y.2.2.1 Y.2.2.2.1 Y.2.2.2.2.2.2.1 :: ab_all := by
  unfold ab_ws ab_wd
  cases e : Y.2.2.2.2.2.2.1 with
  | nil => exact absurd e h
  | cons a r => rfl
theorem ab_pre {M : ab_M} {K : ab_K} {p : Program} {l : Launch} {R : Room} {s : State} {m : MethodId} {args : Array Value} {meth : Method} {c : Code} {H : Heap} {locs : List Loc} {w : ab_W} (X : ab_X M K p l R s m args meth c) (hR : ab_RW K s w H) (hS : va_S (ab_A K) s.heap H locs) (as : List Value) : ∀ U : State, U.heap = H → s.WarmedH U.vm → ab_Pc K as w (as.map (ab_v K)).toArray U := fun U hU hW =>
  ⟨rfl, by rw [hU]; exact ⟨ab_Rep_warm hW.alike hS hU hR.1, hR.2⟩, va_K.moved hW.alike X.2.2.2.2.2.2.2.1, ab_Env_warm hW hS hU X.2.2.2.2.2.2.2.2.1⟩
def ab_OkC (M Y : ab_M) (pc n : Nat) : Prop := ∀ (K : ab_K) (p : Program) (l : Launch) (e : Env) (R : Room) (s : State) (m : MethodId) (args : Array Value) (below : List Frame) (meth : Method) (c : Code), ab_X M K p l R s m args meth c →
  ∀ (H : Heap) (locs : List Loc) (ls' : Array Slot) (cells slots mc ms : Nat) (w : ab_W) (as rest : List Value), ab_RW K s w H → va_S (ab_A K) s.heap H locs → ls'.size = c.maxLocals → as.length = n → (Y.2.2.2.2.2.1 = 100 ∨ ∃ a as' fs, as = .ref a :: as' ∧ w.2 a = some (.inr (Y.2.2.2.2.2.1, fs))) → (rest.map fun v => v.category).sum ≤ 8 → cells + mc ≤ R.cells ∧ slots + ms ≤ R.slots →
  (∀ (v : Option Value) (w' : ab_W), Met l Y.1 (ab_ws Y) (ab_rm Y mc ms) (ab_Pc K as w) (ab_Qc K v w') mc ms (ab_A K) → va_Run p l e R s m args below meth c H locs cells slots mc ms (F0 m pc ls' ((as.reverse ++ rest).map (ab_v K))) (rest.map (ab_v K)) (ab_Qc K v w' (as.map (ab_v K)).toArray) (ab_A K)) ∧
  (6 ≤ Y.2.2.2.2.1 → Y.2.2.2.2.2.2.1 = [] → ∀ (E : Nat) (w' : ab_W) (Qc : Array Value → State → Outcome → State → Prop), vx_Met l Y.1 (ab_ws Y) (ab_rm Y mc ms) (ab_Pc K as w) Qc (ab_Xc K E w') mc ms (ab_A K) → vx_Run p l e R s m args below meth c H locs cells slots mc ms (F0 m pc ls' ((as.reverse ++ rest).map (ab_v K))) (rest.map (ab_v K)) (Qc (as.map (ab_v K)).toArray) (ab_Xc K E w') (ab_A K))
/-- what a call of Y from M needs of the two -/
def ab_two (M Y : ab_M) : Prop := Y.2.2.2.2.1 + 1 ≤ M.2.2.2.2.1 ∧ 8 + (Y.2.2.1 + 11) + 36 * Y.2.2.2.2.1 ≤ 36 * M.2.2.2.2.1 ∧ Y.1.cls ≠ "java/lang/invoke/MethodHandle" ∧ Y.1.cls ≠ "java/lang/invoke/VarHandle" ∧ Cond.initialized Y.1.cls ∈ ab_all ∧ ab_wd Y ∈ ab_all
theorem ab_two_R {M Y : ab_M} (h : ab_two M Y) {K : ab_K} {p : Program} {l : Launch} {R : Room} {s : State} {m : MethodId} {args : Array Value} {meth : Method} {c : Code} (X : ab_X M K p l R s m args meth c) (mc ms : Nat) : (ab_rm Y mc ms).frames + 1 ≤ R.frames ∧ 8 + (Y.2.2.1 + 11) + (ab_rm Y mc ms).locals ≤ R.locals := by
  have h1 := X.2.2.2.2.2.2.2.2.2.1
  have h2 := X.2.2.2.2.2.2.2.2.2.2.1
  obtain ⟨g1, g2, -⟩ := h
  exact ⟨Nat.le_trans g1 h1, by show 8 + (Y.2.2.1 + 11) + 36 * Y.2.2.2.2.1 ≤ R.locals; omega⟩
theorem ab_wsG {Y : ab_M} (h : ab_wd Y ∈ ab_all) : GoodIn ab_all (ab_ws Y) := ab_goodIn fun w hw => by
  rcases List.mem_cons.mp hw with rfl | hw
  · exact h
  · exact hw
theorem ab_revmap (K : ab_K) (as rest : List Value) : (as.reverse ++ rest).map (ab_v K) = (as.map (ab_v K)).reverse ++ rest.map (ab_v K) := by
  rw [List.map_append, List.map_reverse]
section AbCall
variable {M Y : ab_M} {pc n : Nat}
theorem sc_V {N idx : Nat} {T : u_T} (hd : decode M.2.1 pc = .ok (.invokevirtual idx, 3)) (h2 : ab_two M Y) (hno : Y.2.2.2.2.2.2.1 = []) (hc : ab_cl[Y.2.2.2.2.2.1]? = some (Y.1.cls, T, N)) (h100 : Y.2.2.2.2.2.1 ≠ 100) (w1 : Cond.methodLink M.1.cls idx Y.1 ∈ ab_all) (w2 : Cond.instanceMethod Y.1 ∈ ab_all) (w3 : Cond.selects Y.1.cls Y.1 Y.1 ∈ ab_all) (hn : (parseMethodDescriptor Y.1.desc).map (fun d => d.parameters.length + 1) = some n) : ab_OkC M Y pc n := by
  intro K p l e R s m args below meth c X H locs ls' cells slots mc ms w as rest hR hS hsz hln hrc h8 hf
  rcases hrc with h | ⟨a, as', fs, rfl, hσ⟩
  · exact absurd h h100
  have hts := X.2.2.2.2.2.1
  have hK := X.2.2.2.2.2.2.2.1
  obtain ⟨r', hr', cell, g1, g2, g3, -⟩ := ab_gat hR hσ rfl
  have hcell : ∃ cellB : Cell, H[ab_ad K a]? = some cellB ∧ cellB.vm.isStatics = false ∧ s.vm.findClass Y.1.cls = some cellB.cls := ⟨cell, g1, by rw [g3]; rfl, by rw [g2]; exact (hK.1 _ _ hc).2.1⟩
  have hn2 : (parseMethodDescriptor Y.1.desc).map (fun d => d.parameters.length) = some as'.length := by
    have h9 : as'.length + 1 = n := hln
    cases hq : parseMethodDescriptor Y.1.desc with
    | none => rw [hq] at hn; cases hn
    | some d =>
      rw [hq] at hn
      have h10 : d.parameters.length + 1 = n := Option.some.inj hn
      show some d.parameters.length = _
      rw [show d.parameters.length = as'.length by omega]
  have cw : CallW R s args M.1.cls Y.1.cls idx Y.1 Y.2.1 Y.2.2.1 Y.2.2.2.1 (ab_ws Y) (ab_rm Y mc ms) mc ms as'.length :=
    ⟨callB_of as'.length hts (ab_wsG h2.2.2.2.2.2) (ab_ws_0 hno) rfl rfl (hts _ h2.2.2.2.2.1) (hts _ w1) ⟨h2.2.2.1, h2.2.2.2.1, hn2⟩ (ab_two_R h2 X mc ms), hts _ w2, hts _ w3⟩
  have hpre : PreV s H Y.1.cls (ab_ad K a) (ab_Pc K (.ref a :: as') w) (as'.map (ab_v K)) := ⟨ab_blind K _ w, hcell, ab_pre X hR hS (.ref a :: as')⟩
  have hst : (F0 m pc ls' (((Value.ref a :: as').reverse ++ rest).map (ab_v K))).stack = (as'.map (ab_v K)).reverse ++ .ref (ab_ad K a) :: rest.map (ab_v K) := by
    show ((Value.ref a :: as').reverse ++ rest).map (ab_v K) = _
    rw [ab_revmap, List.map_cons, List.reverse_cons, List.append_assoc]
    rfl
  have h8 : 2 * (F0 m pc ls' (((Value.ref a :: as').reverse ++ rest).map (ab_v K))).monitorRoom + ((rest.map (ab_v K)).map fun v => v.category).sum ≤ 8 := lv_room (by rw [ab_cats]; exact h8)
  exact ⟨fun v w' hM => va_runV ⟨X.1, X.2.1, X.2.2.2.1, X.2.2.2.2.1, hts⟩ hM cw hpre rfl (by rw [List.length_map]) (by rw [← X.2.2.2.1]; exact hsz) hst h8 hd hf, fun _ _ E w' Qc hM => vx_runV ⟨X.1, X.2.1, X.2.2.2.1, X.2.2.2.2.1, hts⟩ hM cw hpre rfl (by rw [List.length_map]) (by rw [← X.2.2.2.1]; exact hsz) hst h8 hd hf⟩
theorem ab_len {d : Option ClassFile.MethodDescriptor} {n : Nat} (h : d.map (fun d => d.parameters.length) = some n) {as : List Value} (hl : as.length = n) : d.map (fun d => d.parameters.length) = some as.length := by rw [hl]; exact h
theorem sc_S {idx : Nat} (hd : decode M.2.1 pc = .ok (.invokestatic idx, 3)) (h2 : ab_two M Y) (hno : Y.2.2.2.2.2.2.1 = []) (w1 : Cond.methodLink M.1.cls idx Y.1 ∈ ab_all) (w2 : Cond.static Y.1 ∈ ab_all) (hn : (parseMethodDescriptor Y.1.desc).map (fun d => d.parameters.length) = some n) : ab_OkC M Y pc n := by
  intro K p l e R s m args below meth c X H locs ls' cells slots mc ms w as rest hR hS hsz hln hrc h8 hf
  have hts := X.2.2.2.2.2.1
  have cw : CallB R s args M.1.cls idx Y.1 Y.2.1 Y.2.2.1 Y.2.2.2.1 (ab_ws Y) (ab_rm Y mc ms) mc ms as.length ∧ (Cond.static Y.1).before args s = true :=
    ⟨callB_of as.length hts (ab_wsG h2.2.2.2.2.2) (ab_ws_0 hno) rfl rfl (hts _ h2.2.2.2.2.1) (hts _ w1) ⟨h2.2.2.1, h2.2.2.2.1, ab_len hn hln⟩ (ab_two_R h2 X mc ms), hts _ w2⟩
  have hpre : PreS s H (ab_Pc K as w) (as.map (ab_v K)) := ⟨ab_blind K _ w, ab_pre X hR hS as⟩
  have hst : (F0 m pc ls' ((as.reverse ++ rest).map (ab_v K))).stack = (as.map (ab_v K)).reverse ++ rest.map (ab_v K) := ab_revmap K as rest
  have h8 : 2 * (F0 m pc ls' ((as.reverse ++ rest).map (ab_v K))).monitorRoom + ((rest.map (ab_v K)).map fun v => v.category).sum ≤ 8 := lv_room (by rw [ab_cats]; exact h8)
  exact ⟨fun v w' hM => va_runS ⟨X.1, X.2.1, X.2.2.2.1, X.2.2.2.2.1, hts⟩ hM cw hpre rfl (by rw [List.length_map]) (by rw [← X.2.2.2.1]; exact hsz) hst h8 hd hf, fun _ _ E w' Qc hM => vx_runS ⟨X.1, X.2.1, X.2.2.2.1, X.2.2.2.2.1, hts⟩ hM cw hpre rfl (by rw [List.length_map]) (by rw [← X.2.2.2.1]; exact hsz) hst h8 hd hf⟩
theorem sc_SN {idx : Nat} {host : String} (hd : decode M.2.1 pc = .ok (.invokestatic idx, 3)) (h2 : ab_two M Y) (hno : Y.2.2.2.2.2.2.1 = []) (h6 : Y.2.2.2.2.1 < 6) (w1 : Cond.methodLinkNest M.1.cls idx Y.1 host ∈ ab_odd) (w2 : Cond.static Y.1 ∈ ab_all) (hn : (parseMethodDescriptor Y.1.desc).map (fun d => d.parameters.length) = some n) : ab_OkC M Y pc n := by
  intro K p l e R s m args below meth c X H locs ls' cells slots mc ms w as rest hR hS hsz hln hrc h8 hf
  have hts := X.2.2.2.2.2.1
  have hEn := X.2.2.2.2.2.2.2.2.1
  have hpre : PreS s H (ab_Pc K as w) (as.map (ab_v K)) := ⟨ab_blind K _ w, ab_pre X hR hS as⟩
  have hst : (F0 m pc ls' ((as.reverse ++ rest).map (ab_v K))).stack = (as.map (ab_v K)).reverse ++ rest.map (ab_v K) := ab_revmap K as rest
  have h8 : 2 * (F0 m pc ls' ((as.reverse ++ rest).map (ab_v K))).monitorRoom + ((rest.map (ab_v K)).map fun v => v.category).sum ≤ 8 := lv_room (by rw [ab_cats]; exact h8)
  exact ⟨fun v w' hM => va_runSN ⟨X.1, X.2.1, X.2.2.2.1, X.2.2.2.2.1, hts⟩ hM ⟨va_cnB as.length hts (ab_wsG h2.2.2.2.2.2) (ab_ws_0 hno) rfl rfl (hEn.1 _ w1) (hts _ h2.2.2.2.2.1) ⟨h2.2.2.1, h2.2.2.2.1, ab_len hn hln⟩ (ab_two_R h2 X mc ms), hts _ w2, trivial⟩ hpre rfl (by rw [List.length_map]) (by rw [← X.2.2.2.1]; exact hsz) hst h8 hd hf, fun h9 => absurd h6 (by omega)⟩
theorem sc_I {idx : Nat} (hd : decode M.2.1 pc = .ok (.invokespecial idx, 3)) (h2 : ab_two M Y) (hno : Y.2.2.2.2.2.2.1 = []) (h6 : Y.2.2.2.2.1 < 6) (h100 : Y.2.2.2.2.2.1 ≠ 100) (hr : Y.2.2.2.1 = none) (hni : Y.1.name = "<init>") (w1 : Cond.methodLink M.1.cls idx Y.1 ∈ ab_all) (w2 : Cond.instanceMethod Y.1 ∈ ab_all) (hn : (parseMethodDescriptor Y.1.desc).map (fun d => d.parameters.length + 1) = some n) : ab_OkC M Y pc n := by
  intro K p l e R s m args below meth c X H locs ls' cells slots mc ms w as rest hR hS hsz hln hrc h8 hf
  rcases hrc with h | ⟨a, as', fs, rfl, hσ⟩
  · exact absurd h h100
  have hts := X.2.2.2.2.2.1
  have hn2 : (parseMethodDescriptor Y.1.desc).map (fun d => d.parameters.length) = some as'.length := by
    have h9 : as'.length + 1 = n := hln
    cases hq : parseMethodDescriptor Y.1.desc with
    | none => rw [hq] at hn; cases hn
    | some d =>
      rw [hq] at hn
      have h10 : d.parameters.length + 1 = n := Option.some.inj hn
      show some d.parameters.length = _
      rw [show d.parameters.length = as'.length by omega]
  have cw : CallB R s args M.1.cls idx Y.1 Y.2.1 Y.2.2.1 none (ab_ws Y) (ab_rm Y mc ms) mc ms as'.length ∧ Y.1.name = "<init>" ∧ (Cond.instanceMethod Y.1).before args s = true :=
    ⟨callB_of as'.length hts (ab_wsG h2.2.2.2.2.2) (by rw [ab_ws_0 hno, hr]) rfl rfl (hts _ h2.2.2.2.2.1) (hts _ w1) ⟨h2.2.2.1, h2.2.2.2.1, hn2⟩ (ab_two_R h2 X mc ms), hni, hts _ w2⟩
  have hpre : PreS s H (ab_Pc K (.ref a :: as') w) (.ref (ab_ad K a) :: as'.map (ab_v K)) := ⟨ab_blind K _ w, ab_pre X hR hS (.ref a :: as')⟩
  have hst : (F0 m pc ls' (((Value.ref a :: as').reverse ++ rest).map (ab_v K))).stack = (as'.map (ab_v K)).reverse ++ .ref (ab_ad K a) :: rest.map (ab_v K) := by
    show ((Value.ref a :: as').reverse ++ rest).map (ab_v K) = _
    rw [ab_revmap, List.map_cons, List.reverse_cons, List.append_assoc]
    rfl
  have h8 : 2 * (F0 m pc ls' (((Value.ref a :: as').reverse ++ rest).map (ab_v K))).monitorRoom + ((rest.map (ab_v K)).map fun v => v.category).sum ≤ 8 := lv_room (by rw [ab_cats]; exact h8)
  exact ⟨fun v w' hM => va_runI ⟨X.1, X.2.1, X.2.2.2.1, X.2.2.2.2.1, hts⟩ hM cw hpre rfl (by rw [List.length_map]) (by rw [← X.2.2.2.1]; exact hsz) hst h8 hd hf, fun h9 => absurd h6 (by omega)⟩
theorem sc_IN {idx : Nat} {host : String} (hd : decode M.2.1 pc = .ok (.invokespecial idx, 3)) (h2 : ab_two M Y) (hno : Y.2.2.2.2.2.2.1 = []) (h6 : Y.2.2.2.2.1 < 6) (h100 : Y.2.2.2.2.2.1 ≠ 100) (hr : Y.2.2.2.1 = none) (hni : Y.1.name = "<init>") (w1 : Cond.methodLinkNest M.1.cls idx Y.1 host ∈ ab_odd) (w2 : Cond.instanceMethod Y.1 ∈ ab_all) (hn : (parseMethodDescriptor Y.1.desc).map (fun d => d.parameters.length + 1) = some n) : ab_OkC M Y pc n := by
  intro K p l e R s m args below meth c X H locs ls' cells slots mc ms w as rest hR hS hsz hln hrc h8 hf
  rcases hrc with h | ⟨a, as', fs, rfl, hσ⟩
  · exact absurd h h100
  have hts := X.2.2.2.2.2.1
  have hEn := X.2.2.2.2.2.2.2.2.1
  have hn2 : (parseMethodDescriptor Y.1.desc).map (fun d => d.parameters.length) = some as'.length := by
    have h9 : as'.length + 1 = n := hln
    cases hq : parseMethodDescriptor Y.1.desc with
    | none => rw [hq] at hn; cases hn
    | some d =>
      rw [hq] at hn
      have h10 : d.parameters.length + 1 = n := Option.some.inj hn
      show some d.parameters.length = _
      rw [show d.parameters.length = as'.length by omega]
  have hpre : PreS s H (ab_Pc K (.ref a :: as') w) (.ref (ab_ad K a) :: as'.map (ab_v K)) := ⟨ab_blind K _ w, ab_pre X hR hS (.ref a :: as')⟩
  have hst : (F0 m pc ls' (((Value.ref a :: as').reverse ++ rest).map (ab_v K))).stack = (as'.map (ab_v K)).reverse ++ .ref (ab_ad K a) :: rest.map (ab_v K) := by
    show ((Value.ref a :: as').reverse ++ rest).map (ab_v K) = _
    rw [ab_revmap, List.map_cons, List.reverse_cons, List.append_assoc]
    rfl
  have h8 : 2 * (F0 m pc ls' (((Value.ref a :: as').reverse ++ rest).map (ab_v K))).monitorRoom + ((rest.map (ab_v K)).map fun v => v.category).sum ≤ 8 := lv_room (by rw [ab_cats]; exact h8)
  exact ⟨fun v w' hM => va_runIN ⟨X.1, X.2.1, X.2.2.2.1, X.2.2.2.2.1, hts⟩ hM ⟨va_cnB as'.length hts (ab_wsG h2.2.2.2.2.2) (by rw [ab_ws_0 hno, hr]) rfl rfl (hEn.1 _ w1) (hts _ h2.2.2.2.2.1) ⟨h2.2.2.1, h2.2.2.2.1, hn2⟩ (ab_two_R h2 X mc ms), hni, hts _ w2⟩ hpre rfl (by rw [List.length_map]) (by rw [← X.2.2.2.1]; exact hsz) hst h8 hd hf, fun h9 => absurd h6 (by omega)⟩
theorem sc_SW {idx : Nat} (hd : decode M.2.1 pc = .ok (.invokestatic idx, 3)) (h2 : ab_two M Y) (hno : Y.2.2.2.2.2.2.1 ≠ []) (w1 : Cond.methodLink M.1.cls idx Y.1 ∈ ab_all) (w2 : Cond.static Y.1 ∈ ab_all) (hn : (parseMethodDescriptor Y.1.desc).map (fun d => d.parameters.length) = some n) : ab_OkC M Y pc n := by
  intro K p l e R s m args below meth c X H locs ls' cells slots mc ms w as rest hR hS hsz hln hrc h8 hf
  have hts := X.2.2.2.2.2.1
  have hpre : PreS s H (ab_Pc K as w) (as.map (ab_v K)) := ⟨ab_blind K _ w, ab_pre X hR hS as⟩
  have hst : (F0 m pc ls' ((as.reverse ++ rest).map (ab_v K))).stack = (as.map (ab_v K)).reverse ++ rest.map (ab_v K) := ab_revmap K as rest
  have h8 : 2 * (F0 m pc ls' ((as.reverse ++ rest).map (ab_v K))).monitorRoom + ((rest.map (ab_v K)).map fun v => v.category).sum ≤ 8 := lv_room (by rw [ab_cats]; exact h8)
  have hG : GoodIn ab_all (va_wsS M.1.cls idx Y.1 (ab_ws Y)) := ab_goodIn fun w hw => by
    unfold va_wsS at hw
    rcases List.mem_append.mp hw with h | h
    · rcases List.mem_cons.mp h with rfl | h
      · exact w1
      · rcases List.mem_cons.mp h with rfl | h
        · exact w2
        · rcases List.mem_cons.mp h with rfl | h
          · exact h2.2.2.2.2.1
          · cases h
    · exact (ab_wsG h2.2.2.2.2.2 w h).1
  exact ⟨fun v w' hM => vx_runSW ⟨X.1, X.2.1, X.2.2.2.1, X.2.2.2.2.1, hts⟩ hM (vx_cwSW as.length hts hG (ab_ws_1 hno) rfl rfl ⟨h2.2.2.1, h2.2.2.2.1, ab_len hn hln⟩ (ab_two_R h2 X mc ms)) hpre rfl (by rw [List.length_map]) (by rw [← X.2.2.2.1]; exact hsz) hst h8 hd hf, fun _ h9 => absurd h9 hno⟩
end AbCall
