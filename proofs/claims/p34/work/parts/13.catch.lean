/-! ===== catching; entries of calls ===== -/
theorem sn_catch {M : ab_M} {pc E h : Nat} (pre suf : List (Nat × Nat × Nat × Nat)) (x : Nat × Nat × Nat × Nat) (hs : M.2.2.2.2.2.2.1 = pre ++ x :: suf) (hp : ∀ z ∈ pre, z.2.2.2 ≠ 0 ∧ ∃ nm : String, Cond.classLink M.1.cls z.2.2.2 nm ∈ ab_all ∧ (ab_exc E, nm) ∈ ab_ncs) (hx : covers ⟨x.1, x.2.1, x.2.2.1, x.2.2.2⟩ pc = true) (h0 : x.2.2.2 ≠ 0) (hl : Cond.classLink M.1.cls x.2.2.2 (ab_exc E) ∈ ab_all) (hc : Cond.castable (ab_exc E) (ab_exc E) ∈ ab_odd)
    {i : Nat} (hi : i < M.2.2.1) (hd : (∃ j : Fin 4, (j : Nat) = i ∧ decode M.2.1 x.2.2.1 = .ok (.astore_n j, 1) ∧ h = x.2.2.1 + 1) ∨ (decode M.2.1 x.2.2.1 = .ok (.astore i, 2) ∧ h = x.2.2.1 + 2)) : ab_OkH M pc E h := by
  intro K p l e R s m args below meth c X H locs ls' cells slots rest Q q ce hce hcv hcl hsz hwf kk
  have hts := X.2.2.2.2.2.1
  have hEn := X.2.2.2.2.2.2.2.2.1
  have htab : c.exceptionTable.toList = tableOf pre ++ ⟨x.1, x.2.1, x.2.2.1, x.2.2.2⟩ :: tableOf suf := by
    rw [X.2.2.2.2.2.2.2.2.2.2.2.1, hs]
    unfold tableOf
    rw [List.map_append, List.map_cons]
  have hlr : ab_lr K ls' c.maxLocals (fun _ => none) := ⟨hsz, hwf, fun _ _ h _ => by cases h⟩
  refine vx_catch X.2.2.2.2.1 (tableOf pre) ⟨x.1, x.2.1, x.2.2.1, x.2.2.2⟩ (tableOf suf) htab (fun z hz => ?_) hx h0 (hts _ hl) (va_Nw.use rfl (hEn.1 _ hc)) hce hcv hcl ?_
  · obtain ⟨y, hy, rfl⟩ := List.mem_map.mp hz
    obtain ⟨g1, nm, g2, g3⟩ := hp y hy
    exact Or.inr ⟨g1, nm, hts _ g2, hEn.2.2.2.2.2.2.2.2 _ g3⟩
  · have hi := X.2.2.2.1 ▸ hi
    rcases hd with ⟨j, hj, hd, rfl⟩ | ⟨hd, rfl⟩
    · exact lv_astore_n X.1 X.2.1 hd hj (ab_lr_has hlr) hi rfl (fun ls2 h9 => kk ls2 ⟨h9.1, h9.2.1, fun _ _ h _ => by cases h⟩)
    · exact lv_astore X.1 X.2.1 hd (ab_lr_has hlr) hi rfl (fun ls2 h9 => kk ls2 ⟨h9.1, h9.2.1, fun _ _ h _ => by cases h⟩)
theorem ab_hand_in {mt : List ab_M} {m pc E h : Nat} {M : ab_M} (hM : mt[m]? = some M) (hh : ab_hand mt m pc E = some h) : (pc, E, h) ∈ M.2.2.2.2.2.2.2.1 := by
  unfold ab_hand at hh
  rw [hM] at hh
  dsimp only at hh
  split at hh
  · rename_i y hy
    cases hh
    have h1 := List.mem_of_find?_eq_some hy
    have h2 := List.find?_some hy
    simp only [Bool.and_eq_true, beq_iff_eq] at h2
    obtain ⟨rfl, rfl⟩ := h2
    exact h1
  · cases hh
theorem ab_noh {mt : List ab_M} {m pc : Nat} {M : ab_M} (hM : mt[m]? = some M) (h0 : M.2.2.2.2.2.2.2.1 = []) : ∀ E h, ab_hand mt m pc E = some h → ab_OkH M pc E h := by
  intro E h hh
  have h1 := ab_hand_in hM hh
  rw [h0] at h1
  cases h1
theorem ab_hh {mt : List ab_M} {m pc : Nat} {M : ab_M} (hM : mt[m]? = some M) (h0 : ∀ x ∈ M.2.2.2.2.2.2.2.1, ab_OkH M x.1 x.2.1 x.2.2) : ∀ E h, ab_hand mt m pc E = some h → ab_OkH M pc E h := fun _ _ hh => h0 _ (ab_hand_in hM hh)
theorem ab_call {mt : List ab_M} {m pc n y : Nat} {M Y : ab_M} (hY : mt[y]? = some Y) (hC : ab_OkC M Y pc n) (hh : ∀ E h, ab_hand mt m pc E = some h → ab_OkH M pc E h) : ab_OkE mt m M (pc, .inr (.inr (n + 3, y))) := ⟨Y, hY, hC, hh⟩
theorem ab_act {mt : List ab_M} {m pc : Nat} {M : ab_M} {a : ab_T} (h : ab_Ok1 M pc a) : ab_OkE mt m M (pc, .inl a) := h
theorem ab_mak {mt : List ab_M} {m pc n : Nat} {M : ab_M} {al : ab_N} (h : ab_OkN M pc al n) : ab_OkE mt m M (pc, .inr (.inl (al, n))) := h
theorem ab_ret0 {mt : List ab_M} {m pc t : Nat} {M : ab_M} (h : decode M.2.1 pc = .ok (.return_, 1)) (hr : M.2.2.2.1 = none) : ab_OkE mt m M (pc, .inr (.inr (0, t))) := ⟨h, hr⟩
theorem ab_reti {mt : List ab_M} {m pc : Nat} {M : ab_M} (h : decode M.2.1 pc = .ok (.ireturn, 1)) (hr : M.2.2.2.1 = some .int) : ab_OkE mt m M (pc, .inr (.inr (1, 0))) := Or.inl ⟨rfl, h, hr⟩
theorem ab_retl {mt : List ab_M} {m pc : Nat} {M : ab_M} (h : decode M.2.1 pc = .ok (.lreturn, 1)) (hr : M.2.2.2.1 = some .long) : ab_OkE mt m M (pc, .inr (.inr (1, 1))) := Or.inr (Or.inl ⟨rfl, h, hr⟩)
theorem ab_retz {mt : List ab_M} {m pc : Nat} {M : ab_M} (h : decode M.2.1 pc = .ok (.ireturn, 1)) (hr : M.2.2.2.1 = some .boolean) : ab_OkE mt m M (pc, .inr (.inr (1, 2))) := Or.inr (Or.inr (Or.inl ⟨rfl, h, hr⟩))
theorem ab_retd {mt : List ab_M} {m pc : Nat} {M : ab_M} (h : decode M.2.1 pc = .ok (.dreturn, 1)) (hr : M.2.2.2.1 = some .double) : ab_OkE mt m M (pc, .inr (.inr (1, 4))) := Or.inr (Or.inr (Or.inr ⟨rfl, h, hr⟩))
theorem ab_thro {mt : List ab_M} {m pc E : Nat} {M : ab_M} (h : ab_OkT M pc E) (h6 : 6 ≤ M.2.2.2.2.1) (hn : M.2.2.2.2.2.2.1 = []) : ab_OkE mt m M (pc, .inr (.inr (2, E))) := ⟨h, h6, hn⟩
theorem ab_tw0 : ∀ w ∈ vx_atS "TempoPlayer" 179 (ab_exc 0) ab_names, w ∈ ab_all ∨ w ∈ ab_odd := by decide +kernel
theorem ab_tw1 : ∀ w ∈ vx_atS "TempoPlayer" 164 (ab_exc 1) ab_names, w ∈ ab_all ∨ w ∈ ab_odd := by decide +kernel
theorem ab_tw2 : ∀ w ∈ vx_atS "TempoPlayer" 379 (ab_exc 2) ab_names, w ∈ ab_all ∨ w ∈ ab_odd := by decide +kernel
theorem ab_tg0 : ∀ w ∈ Cond.classLink "TempoPlayer" 175 (ab_exc 0) :: Cond.initialized (ab_exc 0) :: vx_atS "TempoPlayer" 179 (ab_exc 0) ab_names, vx_ot w = true := by decide +kernel
theorem ab_tg1 : ∀ w ∈ Cond.classLink "TempoPlayer" 160 (ab_exc 1) :: Cond.initialized (ab_exc 1) :: vx_atS "TempoPlayer" 164 (ab_exc 1) ab_names, vx_ot w = true := by decide +kernel
theorem ab_tg2 : ∀ w ∈ Cond.classLink "TempoPlayer" 375 (ab_exc 2) :: Cond.initialized (ab_exc 2) :: vx_atS "TempoPlayer" 379 (ab_exc 2) ab_names, vx_ot w = true := by decide +kernel
