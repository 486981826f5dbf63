/-! ===== runs of the abstract machine ===== -/
abbrev ab_M : Type := MethodName × ByteArray × Nat × Option FieldType × Nat × Nat × List (Nat × Nat × Nat × Nat) × List (Nat × Nat × Nat) × List (Nat × ab_E)
def ab_look {α : Type} : List (Nat × α) → Nat → Option α
  | [], _ => none
  | (k, x) :: r, n => if n = k then some x else ab_look r n
theorem ab_look_mem {α : Type} : ∀ (l : List (Nat × α)) (n : Nat) (x : α), ab_look l n = some x → (n, x) ∈ l
  | [], _, _, h => by cases h
  | (k, y) :: r, n, x, h => by
    unfold ab_look at h
    by_cases e : n = k
    · rw [if_pos e] at h
      cases h
      subst e
      exact List.mem_cons_self
    · rw [if_neg e] at h
      exact List.mem_cons_of_mem _ (ab_look_mem r n x h)
/-- the locals at a method's entry -/
def ab_ent : Nat → List Value → ab_L
  | _, [] => fun _ => none
  | i, v :: vs => fun j => if j = i then some v else ab_ent (if v.category = 2 then i + 2 else i + 1) vs j
section AbRun
variable (mt : List ab_M)
def ab_fetch (m pc : Nat) : Option ab_E := match mt[m]? with
  | some r => ab_look r.2.2.2.2.2.2.2.2 pc
  | none => none
def ab_hand (m pc E : Nat) : Option Nat := match mt[m]? with
  | some r => match r.2.2.2.2.2.2.2.1.find? (fun h => h.1 == pc && h.2.1 == E) with
    | some h => some h.2.2
    | none => none
  | none => none
/-- the receiver is an object of the method's class (100: a static method) -/
def ab_recv (y : Nat) (args : List Value) (σ : ab_S) : Bool := match mt[y]? with
  | some r => decide ((args.map fun v => v.category).sum ≤ r.2.2.1) && if r.2.2.2.2.2.1 = 100 then true else match args with
    | .ref a :: _ => match σ a with
      | some (.inr (c, _)) => c == r.2.2.2.2.2.1
      | _ => false
    | _ => false
  | none => false
def ab_fitr (t : Nat) : Value → Bool
  | .int x => t == 0 || (t == 2 && (x == 0 || x == 1))
  | .long _ => t == 1
  | .double _ => t == 4
  | _ => false
/-- a method that may throw -/
def ab_thr (y : Nat) : Bool := match mt[y]? with
  | some r => decide (6 ≤ r.2.2.2.2.1) && r.2.2.2.2.2.2.1.isEmpty
  | none => false
def ab_run : Nat → Nat → Nat → ab_L → List Value → ab_W → Option ab_R
  | 0, _, _, _, _, _ => none
  | k + 1, m, pc, ls, st, w => match ab_fetch mt m pc with
    | none => none
    | some (.inl a) => match a pc ls st w.2 with
      | none => none
      | some r => ab_run k m r.1 r.2.1 r.2.2.1 (w.1, r.2.2.2)
    | some (.inr (.inl (al, n))) => match al st with
      | none => none
      | some q => if w.1.1 = true then ab_run k m (pc + n) ls (.ref w.1.2.1 :: q.2.2) (ab_mk w.1 w.2 q.1 q.2.1) else none
    | some (.inr (.inr (0, _))) => if st = [] then some (.inl none, w) else none
    | some (.inr (.inr (1, t))) => match st with
      | [v] => if ab_fitr t v = true then some (.inl (some v), w) else none
      | _ => none
    | some (.inr (.inr (2, E))) => if st = [] then some (.inr E, (ab_th w.1, w.2)) else none
    | some (.inr (.inr (n + 3, y))) =>
      if n ≤ st.length ∧ ((st.drop n).map fun v => v.category).sum ≤ 8 ∧ ab_recv mt y (st.take n).reverse w.2 = true then
        match ab_run k y 0 (ab_ent 0 (st.take n).reverse) [] w with
        | none => none
        | some (.inl v, w') => ab_run k m (pc + 3) ls (v.toList ++ st.drop n) w'
        | some (.inr E, w') => if ab_thr mt y = true then match ab_hand mt m pc E with
          | none => if ab_thr mt m = true then some (.inr E, w') else none
          | some h => ab_run k m h (fun _ => none) [] w'
          else none
      else none
theorem ab_run_mono : ∀ (k m pc : Nat) (ls : ab_L) (st : List Value) (w : ab_W) (r : ab_R), ab_run mt k m pc ls st w = some r → ab_run mt (k + 1) m pc ls st w = some r
  | 0, _, _, _, _, _, _, h => by cases h
  | k + 1, m, pc, ls, st, w, r, h => by
    have ih := ab_run_mono k
    rw [ab_run] at h ⊢
    split at h
    · exact h
    · split at h
      · exact h
      · exact ih _ _ _ _ _ _ h
    · split at h
      · exact h
      · split at h
        · rename_i h1
          rw [if_pos h1]
          exact ih _ _ _ _ _ _ h
        · cases h
    · exact h
    · exact h
    · exact h
    · split at h
      · rename_i hc
        rw [if_pos hc]
        split at h
        · cases h
        · rename_i v w' hr
          rw [ih _ _ _ _ _ _ hr]
          exact ih _ _ _ _ _ _ h
        · rename_i E w' hr
          rw [ih _ _ _ _ _ _ hr]
          split at h
          · rename_i ht
            dsimp only
            rw [if_pos ht]
            cases hh : ab_hand mt m pc E with
            | none =>
              rw [hh] at h
              exact h
            | some h9 =>
              rw [hh] at h
              exact ih _ _ _ _ _ _ h
          · cases h
      · cases h
theorem ab_run_le {k k' m pc : Nat} {ls : ab_L} {st : List Value} {w : ab_W} {r : ab_R} (hk : k ≤ k') (h : ab_run mt k m pc ls st w = some r) : ab_run mt k' m pc ls st w = some r := by
  induction hk with
  | refl => exact h
  | step _ ih => exact ab_run_mono mt _ _ _ _ _ _ _ ih
theorem ab_run_det {k k' m pc : Nat} {ls : ab_L} {st : List Value} {w : ab_W} {r r' : ab_R} (h : ab_run mt k m pc ls st w = some r) (h' : ab_run mt k' m pc ls st w = some r') : r = r' := by
  have a := ab_run_le mt (Nat.le_max_left k k') h
  have b := ab_run_le mt (Nat.le_max_right k k') h'
  exact Option.some.inj (a.symm.trans b)
/-- the run without its count of steps -/
noncomputable def ab_Run (m pc : Nat) (ls : ab_L) (st : List Value) (w : ab_W) : Option ab_R := by
  classical exact if h : ∃ (r : ab_R) (k : Nat), ab_run mt k m pc ls st w = some r then some (Classical.choose h) else none
theorem ab_Run_of {k m pc : Nat} {ls : ab_L} {st : List Value} {w : ab_W} {r : ab_R} (h : ab_run mt k m pc ls st w = some r) : ab_Run mt m pc ls st w = some r := by
  unfold ab_Run
  have hh : ∃ (r : ab_R) (k : Nat), ab_run mt k m pc ls st w = some r := ⟨r, k, h⟩
  rw [dif_pos hh]
  obtain ⟨k', h'⟩ := Classical.choose_spec hh
  rw [ab_run_det mt h h']
theorem ab_Run_ex {m pc : Nat} {ls : ab_L} {st : List Value} {w : ab_W} {r : ab_R} (h : ab_Run mt m pc ls st w = some r) : ∃ k, ab_run mt k m pc ls st w = some r := by
  unfold ab_Run at h
  split at h
  · rename_i hh
    cases h
    exact Classical.choose_spec hh
  · cases h
/-- two runs that come to the same -/
theorem ab_Run_same {m pc m' pc' : Nat} {ls ls' : ab_L} {st st' : List Value} {w w' : ab_W} (h1 : ∀ k r, ab_run mt k m pc ls st w = some r → ∃ k', ab_run mt k' m' pc' ls' st' w' = some r) (h2 : ∀ k r, ab_run mt k m' pc' ls' st' w' = some r → ∃ k', ab_run mt k' m pc ls st w = some r) : ab_Run mt m pc ls st w = ab_Run mt m' pc' ls' st' w' := by
  cases e : ab_Run mt m' pc' ls' st' w' with
  | some r =>
    obtain ⟨k, hk⟩ := ab_Run_ex mt e
    obtain ⟨k', hk'⟩ := h2 k r hk
    exact ab_Run_of mt hk'
  | none =>
    cases e2 : ab_Run mt m pc ls st w with
    | none => rfl
    | some r =>
      obtain ⟨k, hk⟩ := ab_Run_ex mt e2
      obtain ⟨k', hk'⟩ := h1 k r hk
      rw [ab_Run_of mt hk'] at e
      cases e
theorem ab_Run_act {m pc : Nat} {ls : ab_L} {st : List Value} {w : ab_W} {a : ab_T} {r : ab_P} (hf : ab_fetch mt m pc = some (.inl a)) (ha : a pc ls st w.2 = some r) : ab_Run mt m pc ls st w = ab_Run mt m r.1 r.2.1 r.2.2.1 (w.1, r.2.2.2) := by
  refine ab_Run_same mt (fun k r' h => ?_) (fun k r' h => ⟨k + 1, by rw [ab_run, hf]; simp only [ha]; exact h⟩)
  cases k with
  | zero => cases h
  | succ k =>
    rw [ab_run, hf] at h
    simp only [ha] at h
    exact ⟨k, h⟩
theorem ab_Run_new {m pc n : Nat} {ls : ab_L} {st : List Value} {w : ab_W} {al : ab_N} {q : ab_C × Nat × List Value} (hf : ab_fetch mt m pc = some (.inr (.inl (al, n)))) (ha : al st = some q) (hw : w.1.1 = true) :
    ab_Run mt m pc ls st w = ab_Run mt m (pc + n) ls (.ref w.1.2.1 :: q.2.2) (ab_mk w.1 w.2 q.1 q.2.1) := by
  refine ab_Run_same mt (fun k r' h => ?_) (fun k r' h => ⟨k + 1, by rw [ab_run, hf]; simp only [ha, hw, if_true]; exact h⟩)
  cases k with
  | zero => cases h
  | succ k =>
    rw [ab_run, hf] at h
    simp only [ha, hw, if_true] at h
    exact ⟨k, h⟩
theorem ab_Run_ret0 {m pc t : Nat} {ls : ab_L} {w : ab_W} (hf : ab_fetch mt m pc = some (.inr (.inr (0, t)))) : ab_Run mt m pc ls [] w = some (.inl none, w) :=
  ab_Run_of mt (k := 1) (by rw [ab_run, hf]; rfl)
theorem ab_Run_ret1 {m pc t : Nat} {ls : ab_L} {w : ab_W} {v : Value} (hf : ab_fetch mt m pc = some (.inr (.inr (1, t)))) (hv : ab_fitr t v = true) : ab_Run mt m pc ls [v] w = some (.inl (some v), w) :=
  ab_Run_of mt (k := 1) (by rw [ab_run, hf]; simp only [hv, if_true])
theorem ab_Run_thr {m pc E : Nat} {ls : ab_L} {w : ab_W} (hf : ab_fetch mt m pc = some (.inr (.inr (2, E)))) : ab_Run mt m pc ls [] w = some (.inr E, (ab_th w.1, w.2)) :=
  ab_Run_of mt (k := 1) (by rw [ab_run, hf]; rfl)
/-- a call whose answer is known -/
theorem ab_Run_call {m pc n y : Nat} {ls : ab_L} {st : List Value} {w w' : ab_W} {v : Option Value} (hf : ab_fetch mt m pc = some (.inr (.inr (n + 3, y)))) (hn : n ≤ st.length ∧ ((st.drop n).map fun v => v.category).sum ≤ 8 ∧ ab_recv mt y (st.take n).reverse w.2 = true)
    (hc : ab_Run mt y 0 (ab_ent 0 (st.take n).reverse) [] w = some (.inl v, w')) : ab_Run mt m pc ls st w = ab_Run mt m (pc + 3) ls (v.toList ++ st.drop n) w' := by
  obtain ⟨k0, hk0⟩ := ab_Run_ex mt hc
  refine ab_Run_same mt (fun k r' h => ?_) (fun k r' h => ⟨max k k0 + 1, ?_⟩)
  · cases k with
    | zero => cases h
    | succ k =>
      rw [ab_run, hf] at h
      simp only [if_pos hn] at h
      split at h
      · cases h
      · rename_i v1 w1 hr
        cases ab_run_det mt hr hk0
        exact ⟨k, h⟩
      · rename_i E1 w1 hr
        cases ab_run_det mt hr hk0
  · rw [ab_run, hf]
    simp only [if_pos hn, ab_run_le mt (Nat.le_max_right k k0) hk0]
    exact ab_run_le mt (Nat.le_max_left k k0) h
theorem ab_Run_callx {m pc n y E : Nat} {ls : ab_L} {st : List Value} {w w' : ab_W} (hf : ab_fetch mt m pc = some (.inr (.inr (n + 3, y)))) (hn : n ≤ st.length ∧ ((st.drop n).map fun v => v.category).sum ≤ 8 ∧ ab_recv mt y (st.take n).reverse w.2 = true)
    (hc : ab_Run mt y 0 (ab_ent 0 (st.take n).reverse) [] w = some (.inr E, w')) (ht : ab_thr mt y = true) (ht2 : ab_thr mt m = true) (hh : ab_hand mt m pc E = none) : ab_Run mt m pc ls st w = some (.inr E, w') := by
  obtain ⟨k0, hk0⟩ := ab_Run_ex mt hc
  exact ab_Run_of mt (k := k0 + 1) (by rw [ab_run, hf]; simp only [if_pos hn, hk0, ht, ht2, if_true, hh])
theorem ab_Run_callh {m pc n y E h : Nat} {ls : ab_L} {st : List Value} {w w' : ab_W} (hf : ab_fetch mt m pc = some (.inr (.inr (n + 3, y)))) (hn : n ≤ st.length ∧ ((st.drop n).map fun v => v.category).sum ≤ 8 ∧ ab_recv mt y (st.take n).reverse w.2 = true)
    (hc : ab_Run mt y 0 (ab_ent 0 (st.take n).reverse) [] w = some (.inr E, w')) (ht : ab_thr mt y = true) (hh : ab_hand mt m pc E = some h) : ab_Run mt m pc ls st w = ab_Run mt m h (fun _ => none) [] w' := by
  obtain ⟨k0, hk0⟩ := ab_Run_ex mt hc
  refine ab_Run_same mt (fun k r' h => ?_) (fun k r' h => ⟨max k k0 + 1, ?_⟩)
  · cases k with
    | zero => cases h
    | succ k =>
      rw [ab_run, hf] at h
      simp only [if_pos hn] at h
      split at h
      · cases h
      · rename_i v1 w1 hr
        cases ab_run_det mt hr hk0
      · rename_i E1 w1 hr
        cases ab_run_det mt hr hk0
        simp only [ht, if_true, hh] at h
        exact ⟨k, h⟩
  · rw [ab_run, hf]
    simp only [if_pos hn, ab_run_le mt (Nat.le_max_right k k0) hk0, ht, if_true, hh]
    exact ab_run_le mt (Nat.le_max_left k k0) h
end AbRun
