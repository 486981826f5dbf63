/-! ===== the law's start ===== -/
def R_law : String := "TempoPlayerLaw"
def lw_P (b : Addr) (xs : List Int32) (args : Array Value) (s : State) : Prop := args = #[.ref b] ∧ s.IntsAt b xs ∧ xs.length ≤ 260 ∧ (Jvm.Cond.and given_1 narrow_1).before args s = true
theorem lw_closed {s t : State} {o : Outcome} {d0 : Drawn} {L : List Loc} {k n : Nat} (hd0 : s.drawn.sameBut d0 lw_cs) (hv : ∃ v, o = .returned v) (hW : (s.setDrawn d0).WarmedH t.vm) (hs : (s.setDrawn d0).sameButNew ({ t with vm := s.vm } : State) L k n) : State.butDraws s t lw_cs (fun t1 => Framed s o t1 L k n) := by
  have h2 : t.drawn = d0 := congrArg State.drawn hs.1
  refine ⟨⟨hv, hW, State.sameButNew.setDrawn hs s.drawn⟩, ?_, by decide⟩
  rw [h2]
  exact hd0
def lw_Q (_ : Array Value) (s : State) (o : Outcome) (t : State) : Prop := o = .returned (some (.int 1)) ∧ State.butDraws s t lw_cs (fun t1 => Framed s o t1 [] 600130 7301080)
def lw_Z (below : List Frame) (a : Array Value) (s : State) : State → Prop := fun t => ∃ o, t.status = .running ∧ Ended t below o ∧ lw_Q a s o t
theorem lw_ret {p : Program} {l : Launch} {e : Env} {s : State} {m : MethodId} {below : List Frame} {meth : Method} {c : Code} {b : Nat} {d0 : Drawn} (hd0 : s.drawn.sameBut d0 lw_cs) (hx : p.tables.exec = Jvm.exec) (hb : c.code = code) (hr : meth.sig.returnType = ret) (hlocks : meth.locks = false) {pc : Nat} {H : Heap} {ls : Array Slot} (hdg : decode code pc = .ok (.ireturn, 1)) : W p l e room_1 (s.setDrawn d0) m #[Value.ref b] below meth c H [] 600130 7301080 (lw_Z below #[Value.ref b] s) (F0 m pc ls [.int 1]) := by
  intro T hT X
  obtain ⟨fs, hret, hrun, hended, hW, hframe⟩ := X.leave (v := some (.int 1)) (hlocks := hlocks) (fun h => by rw [hr] at h; cases h)
  have hmeth' : T.vm.method? m = some meth := X.method'
  refine ⟨T.setFrames fs, ?_, .returned (some (.int 1)), hrun, hended, rfl, lw_closed hd0 ⟨_, rfl⟩ hW hframe⟩
  jvm_step X.here [X.here.top, hx, hb, hdg, hmeth', hr, ret, narrow_b1]
  (try refine ⟨rfl, ?_⟩); (try refine ⟨rfl, ?_⟩)
  first | (intro acts; rw [hret _ acts rfl rfl rfl]) | rw [hret _ _ rfl rfl rfl]
  exact Steps.refl _
/-- what holds at the law's entry -/
def lw_At (p : Program) (s : State) (m : MethodId) (meth : Method) (c : Code) (b L : Nat) (xs : Nat → Int32) : Prop :=
  p.tables.exec = Jvm.exec ∧ c.code = code ∧ meth.sig.returnType = ret ∧ c.maxLocals = 8 ∧ s.vm.findClass R_law = some m.cls ∧ (∀ w ∈ lw_tbl, w.before #[Value.ref b] s = true) ∧ va_X b L xs s s.heap ∧ b < s.heap.size ∧ meth.locks = false ∧ (Jvm.Cond.and given_1 narrow_1).before #[Value.ref b] s = true ∧ c.exceptionTable.toList = [] ∧ meth.name = "law"
def ab_least : Nat → UInt32 := fun j => if j = 2 then 100 else 1
def ab_most : Nat → UInt32 := fun j => if j = 0 then 12 else if j = 1 then 8 else if j = 2 then 60000 else if j = 3 then 20000 else 4095
/-- the world at the law's entry: the script, and the two arrays of the class -/
def ab_s0 (L : Nat) (xs : Nat → Int32) : ab_S := fun i => if i = 0 then some (ab_ra L (fun j => (xs j).toUInt32)) else if i = 1 then some (ab_ra 5 ab_least) else if i = 2 then some (ab_ra 5 ab_most) else none
def ab_w0 (L : Nat) (xs : Nat → Int32) : ab_W := ((true, 3, 0, 0), ab_s0 L xs)
abbrev ab_law : Nat := 86
theorem ab_law_M : ab_mt[86]? = some ab_m86 := rfl
section AbStart
variable {args : Array Value} {s : State}
theorem ab_given (h : (Jvm.Cond.and given_1 narrow_1).before args s = true) {w : Cond} (hw : w ∈ flatC (Jvm.Cond.and given_1 narrow_1)) : w.before args s = true := flat_of_before _ h w hw
theorem ab_evi {a : Term} {v : Int32} (h : (Cond.eq a (.int v)).before args s = true) : a.eval args s none [] s = some (.int v) := by
  obtain ⟨y, h1, h2⟩ := Cond.eq_one h
  cases (show some (Value.int v) = some y from h2)
  exact h1
theorem ab_str {k : Nat} {tx : String} (h1 : (Cond.stringRef "TempoPlayer" k tx).before args s = true) (h2 : (Cond.exactly (.string "TempoPlayer" k) "java/lang/String").before args s = true) : ∃ a, vk_R "TempoPlayer" k tx a s := by
  obtain ⟨a, -, -, -, h3, -⟩ := Cond.exactly_spec h2
  exact ⟨a, vk_R.of h1 h3⟩
theorem ab_static5 {nm : String} {f : Nat → UInt32} {A : Nat → Prop} (hl : (Cond.laysStatic "TempoPlayer" nm "[I").before args s = true) (hini : (Cond.initialized "TempoPlayer").before args s = true) (harr : (Cond.arrayOf (.static "TempoPlayer" nm "[I") .int).before args s = true) (hlen : (Cond.eq (.length (.static "TempoPlayer" nm "[I")) (.int 5)).before args s = true)
    (h0 : (Cond.eq (.elem (.static "TempoPlayer" nm "[I") (.int 0)) (.int (f 0).toInt32)).before args s = true) (h1 : (Cond.eq (.elem (.static "TempoPlayer" nm "[I") (.int 1)) (.int (f 1).toInt32)).before args s = true) (h2 : (Cond.eq (.elem (.static "TempoPlayer" nm "[I") (.int 2)) (.int (f 2).toInt32)).before args s = true) (h3 : (Cond.eq (.elem (.static "TempoPlayer" nm "[I") (.int 3)) (.int (f 3).toInt32)).before args s = true) (h4 : (Cond.eq (.elem (.static "TempoPlayer" nm "[I") (.int 4)) (.int (f 4).toInt32)).before args s = true)
    (hA : ∀ a : Nat, a < s.heap.size → ¬ A a) : ∃ t, va_Z "TempoPlayer" nm "[I" (.ref t) A s s.heap ∧ va_T .int t 5 (fun j => .int (f j).toInt32) A s s.heap := by
  obtain ⟨t, ht, hT⟩ := va_Tof (N := 5) (f := fun j => .int (f j).toInt32) (A := A) (by decide) harr (ab_evi hlen) (fun j hj => by
    match j, hj with
    | 0, _ => exact ab_evi h0
    | 1, _ => exact ab_evi h1
    | 2, _ => exact ab_evi h2
    | 3, _ => exact ab_evi h3
    | 4, _ => exact ab_evi h4
    | n + 5, h => exact absurd h (by omega)) hA
  exact ⟨t, va_Zof hl hini ht hA, hT⟩
end AbStart
theorem ab_flags {l : Launch} (h : l.flags = flags0) : l.stackTraces = false := by
  unfold Launch.stackTraces
  rw [h]
  decide +kernel
theorem ab_rb (x : Int32) : x.toUInt32.toInt32 = x := by simp
set_option maxRecDepth 100000 in
theorem ab_gv_least : ∀ w ∈ [Cond.arrayOf (.static "TempoPlayer" "LEAST_VALUES" "[I") .int, .eq (.length (.static "TempoPlayer" "LEAST_VALUES" "[I")) (.int 5), .eq (.elem (.static "TempoPlayer" "LEAST_VALUES" "[I") (.int 0)) (.int 1), .eq (.elem (.static "TempoPlayer" "LEAST_VALUES" "[I") (.int 1)) (.int 1), .eq (.elem (.static "TempoPlayer" "LEAST_VALUES" "[I") (.int 2)) (.int 100), .eq (.elem (.static "TempoPlayer" "LEAST_VALUES" "[I") (.int 3)) (.int 1), .eq (.elem (.static "TempoPlayer" "LEAST_VALUES" "[I") (.int 4)) (.int 1)], w ∈ flatC (Jvm.Cond.and given_1 narrow_1) := by decide +kernel
set_option maxRecDepth 100000 in
theorem ab_gv_most : ∀ w ∈ [Cond.arrayOf (.static "TempoPlayer" "MOST_VALUES" "[I") .int, .eq (.length (.static "TempoPlayer" "MOST_VALUES" "[I")) (.int 5), .eq (.elem (.static "TempoPlayer" "MOST_VALUES" "[I") (.int 0)) (.int 12), .eq (.elem (.static "TempoPlayer" "MOST_VALUES" "[I") (.int 1)) (.int 8), .eq (.elem (.static "TempoPlayer" "MOST_VALUES" "[I") (.int 2)) (.int 60000), .eq (.elem (.static "TempoPlayer" "MOST_VALUES" "[I") (.int 3)) (.int 20000), .eq (.elem (.static "TempoPlayer" "MOST_VALUES" "[I") (.int 4)) (.int 4095)], w ∈ flatC (Jvm.Cond.and given_1 narrow_1) := by decide +kernel
set_option maxRecDepth 100000 in
theorem ab_gv_str : ∀ q ∈ ab_strs, Cond.exactly (.string "TempoPlayer" q.1) "java/lang/String" ∈ flatC (Jvm.Cond.and given_1 narrow_1) := by decide +kernel
theorem ab_gv_strw : ∀ q ∈ ab_strs, Cond.stringRef "TempoPlayer" q.1 q.2 ∈ lw_tbl := by decide +kernel
set_option maxRecDepth 100000 in
theorem ab_gv_ref : ∀ w ∈ [Cond.isRef (.static Bundle.tN "UNASSIGNED_STACK" Bundle.steD), Cond.isRef (.static Bundle.tN "SUPPRESSED_SENTINEL" Bundle.listD)], w ∈ flatC (Jvm.Cond.and given_1 narrow_1) := by decide +kernel
set_option maxRecDepth 100000 in
theorem ab_gv_nc : ∀ q ∈ ab_ncs, Cond.not (.castable q.1 q.2) ∈ flatC (Jvm.Cond.and given_1 narrow_1) := by decide +kernel
theorem ab_gv_tbl : ∀ w ∈ [Cond.laysStatic "TempoPlayer" "LEAST_VALUES" "[I", Cond.laysStatic "TempoPlayer" "MOST_VALUES" "[I", Cond.laysStatic Bundle.tN "UNASSIGNED_STACK" Bundle.steD, Cond.laysStatic Bundle.tN "SUPPRESSED_SENTINEL" Bundle.listD, Cond.initialized "TempoPlayer", Cond.initialized Bundle.tN, Cond.arrayClass .int, Cond.arrayClass .long, Cond.arrayOver (.object ab_pc)], w ∈ lw_tbl := by decide +kernel
theorem ab_ins : ∀ q ∈ [("TempoPlayer", 10), ("TempoPlayer$Score", 8), ("TempoPlayer$Piece", 3), ("TempoPlayer$Table", 4), ("TempoPlayer$Playback", 11), ("TempoPlayer$History", 2), ("TempoPlayer$TextReader", 5)], Cond.instantiable q.1 q.2 ∈ lw_tbl := by decide +kernel
set_option maxHeartbeats 4000000 in
/-- THE LAW, from its entry: what the abstract machine says of it, the machine does -/
theorem ab_whole {L : Nat} {xs : Nat → Int32} {w' : ab_W} (hrun : ab_Run ab_mt 86 0 (ab_ent 0 [.ref 0]) [] (ab_w0 L xs) = some (.inl (some (.int 1)), w')) (hc1 : w'.1.2.2.1 ≤ 600130) (hc2 : w'.1.2.2.2 ≤ 7301080) {p : Program} {e : Env} {s : State} {m : MethodId} {below : List Frame} {meth : Method} {c : Code} (l : Launch) (hflags : l.flags = flags0) {b : Nat} (hL : L ≤ 260) (C0 : lw_At p s m meth c b L xs) :
    W p l e room_1 s m #[Value.ref b] below meth c s.heap [] 0 0 (lw_Z below #[Value.ref b] s) (entryFrame m ([Value.ref b] : List Value).toArray 8) := by
  obtain ⟨hx, hb, hr, hml, hown, hts, hX, hbl, hlocks, hgv, htab, hname⟩ := C0
  have htA : ∀ w ∈ ab_all, w.before #[Value.ref b] s = true := fun w hw => hts w (List.mem_filter.mp hw).1
  have hA : ∀ a : Nat, a < s.heap.size → ¬ (fun q : Nat => s.heap.size ≤ q) a := fun a ha => Nat.not_le.mpr ha
  have hT : ∀ (k : Nat) (q : vw_C), ab_cl[k]? = some q → ∃ (cC : ClassId) (iS : Nat → Nat), u_Kn s q.1 q.2.1 q.2.2 cC iS := by
    intro k q hq
    match k, hq with
    | 0, hq => cases hq; exact u_known (n := 10) htA ab_i0 (hts _ (ab_ins ("TempoPlayer", 10) (by decide)))
    | 1, hq => cases hq; exact u_known (n := 8) htA ab_i1 (hts _ (ab_ins ("TempoPlayer$Score", 8) (by decide)))
    | 2, hq => cases hq; exact u_known (n := 3) htA ab_i2 (hts _ (ab_ins ("TempoPlayer$Piece", 3) (by decide)))
    | 3, hq => cases hq; exact u_known (n := 4) htA ab_i3 (hts _ (ab_ins ("TempoPlayer$Table", 4) (by decide)))
    | 4, hq => cases hq; exact u_known (n := 11) htA ab_i4 (hts _ (ab_ins ("TempoPlayer$Playback", 11) (by decide)))
    | 5, hq => cases hq; exact u_known (n := 2) htA ab_i5 (hts _ (ab_ins ("TempoPlayer$History", 2) (by decide)))
    | 6, hq => cases hq; exact u_known (n := 5) htA ab_i6 (hts _ (ab_ins ("TempoPlayer$TextReader", 5) (by decide)))
    | k + 7, hq => exact absurd (List.getElem?_eq_some_iff.mp hq).1 (by rw [show ab_cl.length = 7 from rfl]; omega)
  obtain ⟨dC, dI, hKn⟩ : ∃ (dC : Nat → ClassId) (dI : Nat → Nat → Nat), ∀ (k : Nat) (q : vw_C), ab_cl[k]? = some q → u_Kn s q.1 q.2.1 q.2.2 (dC k) (dI k) := by
    have h9 : ∀ k : Nat, ∃ z : ClassId × (Nat → Nat), ∀ q : vw_C, ab_cl[k]? = some q → u_Kn s q.1 q.2.1 q.2.2 z.1 z.2 := by
      intro k
      cases hq : ab_cl[k]? with
      | none => exact ⟨(0, fun _ => 0), fun q h => by cases h⟩
      | some q =>
        obtain ⟨cC, iS, h⟩ := hT k q hq
        exact ⟨(cC, iS), fun q2 h2 => by cases h2; exact h⟩
    exact ⟨fun k => (Classical.choose (h9 k)).1, fun k => (Classical.choose (h9 k)).2, fun k q hq => Classical.choose_spec (h9 k) q hq⟩
  obtain ⟨cI, kI, compI, i1, i2, i3⟩ := Cond.arrayClass_spec (hts _ (ab_gv_tbl (.arrayClass .int) (by decide)))
  obtain ⟨cL, kL, compL, j1, j2, j3⟩ := Cond.arrayClass_spec (hts _ (ab_gv_tbl (.arrayClass .long) (by decide)))
  obtain ⟨compP, cP, kP, p1, -, p2, p3, p4⟩ := Cond.arrayOver_spec (hts _ (ab_gv_tbl (.arrayOver (.object ab_pc)) (by decide)))
  obtain ⟨aL, zL, tL⟩ := ab_static5 (f := ab_least) (hts _ (ab_gv_tbl (.laysStatic "TempoPlayer" "LEAST_VALUES" "[I") (by decide))) (hts _ (ab_gv_tbl (.initialized "TempoPlayer") (by decide))) (ab_given hgv (ab_gv_least _ (List.mem_of_getElem? (i := 0) rfl))) (ab_given hgv (ab_gv_least _ (List.mem_of_getElem? (i := 1) rfl))) (ab_given hgv (ab_gv_least _ (List.mem_of_getElem? (i := 2) rfl))) (ab_given hgv (ab_gv_least _ (List.mem_of_getElem? (i := 3) rfl))) (ab_given hgv (ab_gv_least _ (List.mem_of_getElem? (i := 4) rfl))) (ab_given hgv (ab_gv_least _ (List.mem_of_getElem? (i := 5) rfl))) (ab_given hgv (ab_gv_least _ (List.mem_of_getElem? (i := 6) rfl))) hA
  obtain ⟨aM, zM, tM⟩ := ab_static5 (f := ab_most) (hts _ (ab_gv_tbl (.laysStatic "TempoPlayer" "MOST_VALUES" "[I") (by decide))) (hts _ (ab_gv_tbl (.initialized "TempoPlayer") (by decide))) (ab_given hgv (ab_gv_most _ (List.mem_of_getElem? (i := 0) rfl))) (ab_given hgv (ab_gv_most _ (List.mem_of_getElem? (i := 1) rfl))) (ab_given hgv (ab_gv_most _ (List.mem_of_getElem? (i := 2) rfl))) (ab_given hgv (ab_gv_most _ (List.mem_of_getElem? (i := 3) rfl))) (ab_given hgv (ab_gv_most _ (List.mem_of_getElem? (i := 4) rfl))) (ab_given hgv (ab_gv_most _ (List.mem_of_getElem? (i := 5) rfl))) (ab_given hgv (ab_gv_most _ (List.mem_of_getElem? (i := 6) rfl))) hA
  obtain ⟨K, hK0⟩ : ∃ K : ab_K, K = ((dC, dI), (cI, cL, cP), s.heap.size, fun i => if i = 0 then b else if i = 1 then aL else aM) := ⟨_, rfl⟩
  have hKA : ab_A K = fun q : Nat => s.heap.size ≤ q := by rw [hK0]; rfl
  have hKv : va_K K.1 ab_cl (ab_tys K) s := by
    rw [hK0]
    refine ⟨hKn, fun k q hq => ?_⟩
    match k, hq with
    | 0, hq => cases hq; exact ⟨fun n z => ⟨fun k h => (by cases h), kI, i2, compI, i3⟩, i1⟩
    | 1, hq => cases hq; exact ⟨fun n z => ⟨fun k h => (by cases h), kL, j2, compL, j3⟩, j1⟩
    | 2, hq => cases hq; exact ⟨fun n z => ⟨fun k h => (by cases h), kP, p2, compP, p3⟩, ⟨kP, compP, p2, p3, p1, p4⟩⟩
    | k + 3, hq => exact absurd (List.getElem?_eq_some_iff.mp hq).1 (by show ¬ k + 3 < 3; omega)
  have hEnv : ab_Env K s := by
    unfold ab_Env
    rw [hKA]
    refine ⟨fun w hw => ?_, fun q hq => ab_str (hts _ (ab_gv_strw q hq)) (ab_given hgv (ab_gv_str q hq)), vx_Zqof (hts _ (ab_gv_tbl _ (List.mem_of_getElem? (i := 2) rfl))) (hts _ (ab_gv_tbl _ (List.mem_of_getElem? (i := 5) rfl))) (ab_given hgv (ab_gv_ref _ (List.mem_of_getElem? (i := 0) rfl))) hA, vx_Zqof (hts _ (ab_gv_tbl _ (List.mem_of_getElem? (i := 3) rfl))) (hts _ (ab_gv_tbl _ (List.mem_of_getElem? (i := 5) rfl))) (ab_given hgv (ab_gv_ref _ (List.mem_of_getElem? (i := 1) rfl))) hA, by rw [hK0]; exact zL, by rw [hK0]; exact zM, va_AO.of (hts _ (ab_gv_tbl _ (List.mem_of_getElem? (i := 8) rfl))), by rw [hK0]; exact Nat.le_refl _, fun q hq => va_Nc.of (ab_given hgv (ab_gv_nc q hq))⟩
    exact va_Nw.of (by
      have h2 : ab_oddk w = true := (List.mem_filter.mp hw).2
      cases w <;> first | (cases h2; done) | rfl) (hts w (List.mem_filter.mp hw).1)
  have X : ab_X ab_m86 K p l room_1 s m #[Value.ref b] meth c := ⟨hx, hb, hr, hml, hown, htA, hlocks, hKv, hEnv, by decide, by decide, htab, ab_flags hflags, hname⟩
  have hRW : ab_RW K s (ab_w0 L xs) s.heap := by
    refine ⟨⟨⟨[], fun k q h => by simp at h, ⟨fun i j p q h => by simp at h, fun k q h => by simp at h⟩, fun i c hi hc => ?_⟩, fun i n f hi => ?_⟩, fun _ => by rw [hK0]; rfl⟩
    · have hi : ab_s0 L xs i = some c := hi
      unfold ab_s0 at hi
      split at hi
      · cases hi; cases hc
      · split at hi
        · cases hi; cases hc
        · split at hi
          · cases hi; cases hc
          · cases hi
    · have hi : ab_s0 L xs i = some (ab_ra n f) := hi
      rw [hKA]
      unfold ab_s0 at hi
      split at hi
      · rename_i h0
        cases hi
        subst h0
        obtain ⟨scr, g1, g2, g3, g4, g5⟩ := hX
        rw [show ab_ad K 0 = b by rw [hK0]; rfl]
        exact ⟨scr, g1, g2, g3, by omega, by rw [g4], fun j hj => by show scr.slots[j]? = some (.int ((xs j).toUInt32).toInt32); rw [ab_rb]; exact g5 j hj, hA b hbl⟩
      · split at hi
        · rename_i h1
          cases hi
          subst h1
          rw [show ab_ad K 1 = aL by rw [hK0]; rfl]
          exact tL
        · split at hi
          · rename_i h2
            cases hi
            subst h2
            rw [show ab_ad K 2 = aM by rw [hK0]; rfl]
            exact tM
          · cases hi
  obtain ⟨k, hk⟩ := ab_Run_ex ab_mt hrun
  have hlv := lv_entry ([.ref b]) (n := 8) (Nat.le_of_ble_eq_true rfl)
  rw [lg_entry_eq]
  generalize (lg_sl ([.ref b]) ++ List.replicate (8 - (lg_sl ([.ref b])).length) Slot.unset).toArray = ls at hlv ⊢
  have hlr : ab_lr K ls c.maxLocals (ab_ent 0 [.ref 0]) := by
    rw [hml]
    refine ab_lr_ent ?_
    rw [show [Value.ref 0].map (ab_v K) = [.ref b] by rw [hK0]; rfl]
    exact hlv
  refine ab_sound ab_mt ab_mt_all k 86 0 (ab_ent 0 [.ref 0]) [] (ab_w0 L xs) _ hk ab_m86 ab_law_M K p l e room_1 s m #[Value.ref b] below meth c X 0 0 _ (by rw [Nat.zero_add]; exact hc1) (by rw [Nat.zero_add]; exact hc2) ⟨?_, ?_, ?_, ?_⟩ s.heap [] ls 0 0 hRW va_S.rf hlr rfl rfl (Nat.zero_le _) (Nat.zero_le _)
  · intro h
    cases h
  · intro v hv pc t ls9 hf hfit H locs ls' cells slots hR hS _ h1 h2 h3 h4
    cases hv
    have hd : decode code pc = .ok (.ireturn, 1) := by
      rcases ab_fetch_ok ab_mt ab_mt_all ab_law_M hf with ⟨-, hd, hr9⟩ | ⟨-, hd, hr9⟩ | ⟨-, hd, -⟩ | ⟨-, hd, hr9⟩
      · exact hd
      · cases hr9
      · exact hd
      · cases hr9
    exact W.widen (k := 600130) (n := 7301080) h3 h4 (va_forget (fun q hq => by have h9 := hS.2.2 q hq; rw [hKA] at h9; exact h9) (W.base (lw_ret (Drawn.sameBut.refl s.drawn lw_cs) hx hb hr hlocks hd)))
  · intro E h
    cases h
  · intro E h
    cases h
