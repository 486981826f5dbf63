/-! ===== the actions on the heap are the machine's ===== -/
theorem ab_not_or {i : Int32} {n : Nat} (h : ¬ (i < 0 ∨ n ≤ i.toNatClampNeg)) : vp_in i n := h
theorem ab_RW_set {K : ab_K} {s : State} {g : ab_G} {σ σ' : ab_S} {H H1 : Heap} (hR : ab_RW K s (g, σ) H) (h : ab_Rep K s σ' H1) (hz : H1.size = H.size) : ab_RW K s (g, σ') H1 := ⟨h, fun h1 => by rw [hz]; exact hR.2 h1⟩
theorem ab_vfit (K : ab_K) (t : Nat) (v : Value) (h : ab_fit t v = true) (ty : FieldType) (hty : (t = 0 ∧ ty = .int) ∨ (t = 1 ∧ ty = .long) ∨ (t = 2 ∧ ty = .boolean) ∨ (t = 3 ∧ ((∃ C, ty = .object C) ∨ ∃ C, ty = .array C))) : narrow ty (ab_v K v) = ab_v K v ∧ fits ty (ab_v K v) = true := by
  rcases hty with ⟨rfl, rfl⟩ | ⟨rfl, rfl⟩ | ⟨rfl, rfl⟩ | ⟨rfl, ⟨C, rfl⟩ | ⟨C, rfl⟩⟩
  · cases v <;> simp [ab_fit] at h <;> exact ⟨rfl, rfl⟩
  · cases v <;> simp [ab_fit] at h <;> exact ⟨rfl, rfl⟩
  · cases v <;> simp [ab_fit] at h
    rcases h with rfl | rfl
    · exact ⟨show narrow .boolean (.int 0) = .int 0 by decide, show fits .boolean (.int 0) = true by decide⟩
    · exact ⟨show narrow .boolean (.int 1) = .int 1 by decide, show fits .boolean (.int 1) = true by decide⟩
  · cases v <;> simp [ab_fit] at h <;> exact ⟨rfl, rfl⟩
  · cases v <;> simp [ab_fit] at h <;> exact ⟨rfl, rfl⟩
section AbHeap
variable {M : ab_M} {pc : Nat}
theorem sn_get {ci kk N idx : Nat} {C : String} {T : u_T} (hd : decode M.2.1 pc = .ok (.getfield idx, 3)) (hc : ab_cl[ci]? = some (C, T, N)) (hk : kk < N) (hin : ∀ w ∈ u_ws C T N, w ∈ ab_all) (hw : Cond.fieldLink M.1.cls idx (T kk).1 (T kk).2.1 (T kk).2.2.1 ∈ ab_all) : ab_Ok1 M pc (ab_get ci kk) := by
  intro ls st σ r h K p l e R s m args below meth c X hdp c0 s0 Q g k H locs ls' cells slots hR hS hl h1 h2 h3 h4
  unfold ab_get at h
  split at h
  · split at h
    · rename_i c1 fs hσ
      split at h
      · rename_i hci
        subst hci
        split at h
        · rename_i v hv
          cases h
          obtain ⟨⟨ws, hP, hD, hi⟩, -⟩ := hR.1
          obtain ⟨-, q0, hq⟩ := hi _ _ hσ rfl
          exact va_get X.1 X.2.1 X.2.2.2.2.2.1 hin X.2.2.2.2.1 X.2.2.2.2.2.2.2.1 hP q0 hq hc kk hk (X.2.2.2.2.2.1 _ hw) (fun _ h9 => h9) (by rw [List.getElem?_map, hv]; rfl) hd (k H locs ls' cells slots hR hS hl h1 h2 h3 h4)
        · cases h
      · cases h
    · cases h
  · cases h
theorem ab_set {K : ab_K} {s : State} {g : ab_G} {σ : ab_S} {H H1 : Heap} {locs : List Loc} {a j : Nat} {c c' : ab_C} (hR : ab_RW K s (g, σ) H) (hS : va_S (ab_A K) s.heap H locs) (ha : σ a = some c) (hc : ab_ro c = false) (hc' : ab_ro c' = false) (hz : H1.size = H.size) (oq : ∀ q : Nat, q ≠ ab_ad K a → H1[q]? = H[q]?) (hat : va_at K.1 ab_cl (ab_ad K a, ab_c K c') H1) :
    ab_RW K s (g, ab_up σ a (some c')) H1 ∧ va_S (ab_A K) s.heap H1 (locs ++ [⟨ab_ad K a, j⟩]) := by
  obtain ⟨⟨ws, hP, hD, hi⟩, ht⟩ := hR.1
  obtain ⟨h3, q0, hq⟩ := hi _ _ ha hc
  exact ⟨ab_RW_set hR (ab_Rep_set hi ht ha hc hc' hq (hP.set hD hq hat oq) (hD.set hq)) hz, hS.put hz oq (ab_adA h3)⟩
theorem ab_gat {K : ab_K} {s : State} {g : ab_G} {σ : ab_S} {H : Heap} {a : Nat} {c : ab_C} (hR : ab_RW K s (g, σ) H) (ha : σ a = some c) (hc : ab_ro c = false) : va_at K.1 ab_cl (ab_ad K a, ab_c K c) H := by
  obtain ⟨⟨ws, hP, -, hi⟩, -⟩ := hR.1
  obtain ⟨-, q0, hq⟩ := hi _ _ ha hc
  exact hP q0 _ hq
/-- the classes' tables, as a field's store wants them -/
def ab_tab (C : String) (T : u_T) (N : Nat) (ty0 : Nat → FieldType) : Prop := (∀ w ∈ u_ws C T N, w ∈ ab_all) ∧ (∀ k, k < N → parseFieldDescriptor (T k).2.2.1 = some (ty0 k)) ∧ (∀ a, a < N → ∀ b, b < N → a ≠ b → (T a).2.1 ≠ (T b).2.1)
theorem sn_put {ci kk N idx t : Nat} {C : String} {T : u_T} {ty0 : Nat → FieldType} (hd : decode M.2.1 pc = .ok (.putfield idx, 3)) (hc : ab_cl[ci]? = some (C, T, N)) (hk : kk < N) (hT : ab_tab C T N ty0) (hw : Cond.fieldLink M.1.cls idx (T kk).1 (T kk).2.1 (T kk).2.2.1 ∈ ab_all)
    (hty : (t = 0 ∧ ty0 kk = .int) ∨ (t = 1 ∧ ty0 kk = .long) ∨ (t = 2 ∧ ty0 kk = .boolean) ∨ (t = 3 ∧ ((∃ C, ty0 kk = .object C) ∨ ∃ C, ty0 kk = .array C))) (hfin : (T kk).2.2.2 = false ∨ ((T kk).2.2.2 = true ∧ M.1.name = "<init>" ∧ (T kk).1 = M.1.cls)) : ab_Ok1 M pc (ab_put ci kk t) := by
  intro ls st σ r h K p l e R s m args below meth c X hdp c0 s0 Q g k H locs ls' cells slots hR hS hl h1 h2 h3 h4
  unfold ab_put at h
  split at h
  · rename_i v a r9
    split at h
    · rename_i c1 fs hσ
      split at h
      · rename_i hh
        obtain ⟨hci, hlen, hfv⟩ := hh
        subst hci
        cases h
        have hK := X.2.2.2.2.2.2.2.1
        have hts := X.2.2.2.2.2.1
        have hap := va_apart (own := M.1.cls) hts hT.1 ty0 hT.2.1 hT.2.2 hK hc
        obtain ⟨r, g1, cell, q1, q2, q3, q4⟩ := ab_gat hR hσ rfl
        have hr : r = (C, T, N) := Option.some.inj (g1.symm.trans hc)
        subst hr
        obtain ⟨hSl, hfc, kC, hkC, hkind⟩ := hK.1 c1 _ hc
        obtain ⟨cf, kf, fi, f, hi, hsl⟩ := hSl kk hk
        have hlays := u_lays hts hT.1 hk
        have hst := (u_facts hfc hkC hlays hi).1
        have hdd := hT.2.1 kk hk
        obtain ⟨hn, hfit⟩ := ab_vfit K t v hfv (ty0 kk) hty
        have hff := u_fits hfc hkC hkind hlays hi hdd hn hfit
        have hcell : f.slot < cell.slots.size := by rw [hsl]; exact k2_hasslot (q4 kk hk)
        have hlay := hts _ (hT.1 _ (u_in_lay hk))
        unfold u_lay at hlay
        have fin : ∀ H' : Heap, H'[ab_ad K a]? = some (cell.setSlot f.slot (ab_v K v)) → H'.size = H.size → (∀ q, q ≠ ab_ad K a → H'[q]? = H[q]?) → W p l e R s m args below meth c H' (locs ++ [⟨ab_ad K a, f.slot⟩]) cells slots Q (F0 m (pc + 3) ls' (r9.map (ab_v K))) := by
          intro H' e1 e2 e3
          rw [hsl] at e1
          obtain ⟨z1, z2⟩ := ab_set (j := f.slot) (c' := .inr (c1, fs.set kk v)) hR hS hσ rfl rfl e2 e3 ⟨_, hc, by
            show t_OB _ _ _ _ _ (vp_V ((fs.set kk v).map (ab_v K)))
            rw [List.map_set]
            exact t_OB.to (V := updV (vp_V (fs.map (ab_v K))) kk (ab_v K v)) ⟨_, e1, q2, q3, t_set q4 hap hk (ab_v K v)⟩ (fun j _ => vp_updV_set (by rw [List.length_map]; exact hlen) (ab_v K v) j)⟩
          exact k H' _ ls' cells slots z1 z2 hl h1 h2 h3 h4
        rcases hfin with hf | ⟨hf, hn1, hown1⟩
        · rw [if_neg (by rw [hf]; decide)] at hlay
          have h6 := u_store hfc hkC hkind hlay hi hdd hn hfit
          exact W.putK X.1 X.2.1 (f := f) ⟨X.2.2.2.2.1, hts _ hw, ⟨_, _, _, hi⟩, hst⟩ (by rw [q2]; exact h6) q1 q3 hcell rfl rfl hd fin
        · rw [if_pos hf] at hlay
          have hcf : m.cls = cf := by
            obtain ⟨_, _, c', _, _, _, -, -, hf', -, -, -, hown2, -⟩ := Cond.laysFinal_spec hlay
            have e1 : c' = cf := by have := hi.symm.trans hf'; simp at this; exact this.1.symm
            rw [hown1] at hown2
            rw [← e1]; exact Option.some.inj (X.2.2.2.2.1.symm.trans hown2)
          exact W.putFinK X.1 X.2.1 X.2.2.2.2.1 (hts _ hw) hi hst hcf (X.2.2.2.2.2.2.2.2.2.2.2.2.2.trans hn1) (by rw [q2]; exact hff) q1 q3 hcell rfl rfl hd fin
      · cases h
    · cases h
  · cases h
theorem sn_iald (hd : decode M.2.1 pc = .ok (.iaload, 1)) : ab_Ok1 M pc ab_iald := by
  intro ls st σ r h K p l e R s m args below meth c X hdp c0 s0 Q g k H locs ls' cells slots hR hS hl h1 h2 h3 h4
  unfold ab_iald at h
  split at h
  · split at h
    · rename_i n f hσ
      split at h
      · cases h
      · rename_i hin
        cases h
        obtain ⟨⟨ws, hP, hD, hi⟩, -⟩ := hR.1
        obtain ⟨-, q0, hq⟩ := hi _ _ hσ rfl
        exact va_iald X.1 X.2.1 X.2.2.2.2.2.2.2.1 hP q0 0 hq rfl hin hd (k H locs ls' cells slots hR hS hl h1 h2 h3 h4)
    · rename_i n f hσ
      split at h
      · cases h
      · rename_i hin
        cases h
        exact va_ti X.1 X.2.1 (hR.1.2 _ _ _ hσ) hS hin rfl hd (k H locs ls' cells slots hR hS hl h1 h2 h3 h4)
    · cases h
  · cases h
theorem sn_lald (hd : decode M.2.1 pc = .ok (.laload, 1)) : ab_Ok1 M pc ab_lald := by
  intro ls st σ r h K p l e R s m args below meth c X hdp c0 s0 Q g k H locs ls' cells slots hR hS hl h1 h2 h3 h4
  unfold ab_lald at h
  split at h
  · split at h
    · rename_i n f hσ
      split at h
      · cases h
      · rename_i hin
        cases h
        obtain ⟨⟨ws, hP, hD, hi⟩, -⟩ := hR.1
        obtain ⟨-, q0, hq⟩ := hi _ _ hσ rfl
        exact va_lald X.1 X.2.1 X.2.2.2.2.2.2.2.1 hP q0 1 hq rfl hin hd (k H locs ls' cells slots hR hS hl h1 h2 h3 h4)
    · cases h
  · cases h
theorem sn_aald (hd : decode M.2.1 pc = .ok (.aaload, 1)) : ab_Ok1 M pc ab_aald := by
  intro ls st σ r h K p l e R s m args below meth c X hdp c0 s0 Q g k H locs ls' cells slots hR hS hl h1 h2 h3 h4
  unfold ab_aald at h
  split at h
  · split at h
    · rename_i n f hσ
      split at h
      · cases h
      · rename_i hin
        split at h
        · rename_i q9 hf
          cases h
          obtain ⟨⟨ws, hP, hD, hi⟩, -⟩ := hR.1
          obtain ⟨-, q0, hq⟩ := hi _ _ hσ rfl
          refine va_aldq X.1 X.2.1 X.2.2.2.2.2.2.2.1 hP q0 2 hq rfl hin hd ?_
          rw [hf]
          exact k H locs ls' cells slots hR hS hl h1 h2 h3 h4
        · cases h
    · cases h
  · cases h
theorem ab_updV_i (f : Nat → Int32) (k : Nat) (x : Int32) : updV (fun j => Value.int (f j)) k (.int x) = fun j => .int (ab_up f k x j) := by
  funext q
  by_cases hq : q = k
  · subst hq
    simp [updV, ab_up]
  · simp [updV, ab_up, hq]
theorem ab_updV_l (f : Nat → Int64) (k : Nat) (x : Int64) : updV (fun j => Value.long (f j)) k (.long x) = fun j => .long (ab_up f k x j) := by
  funext q
  by_cases hq : q = k
  · subst hq
    simp [updV, ab_up]
  · simp [updV, ab_up, hq]
theorem sn_iast (hd : decode M.2.1 pc = .ok (.iastore, 1)) : ab_Ok1 M pc ab_iast := by
  intro ls st σ r h K p l e R s m args below meth c X hdp c0 s0 Q g k H locs ls' cells slots hR hS hl h1 h2 h3 h4
  unfold ab_iast at h
  split at h
  · rename_i x i a r9
    split at h
    · rename_i n f hσ
      split at h
      · cases h
      · rename_i hin
        cases h
        refine W.iast X.1 X.2.1 (ab_gat hR hσ rfl) ((X.2.2.2.2.2.2.2.1.2 0 _ rfl).1 n (fun j => .int (f j))) (fun q => by cases q) (by show ¬ (_ < 0 ∨ (arrV _ _ _).slots.size ≤ _); rw [arrV_size]; exact hin) rfl rfl hd fun H1 e1 z oq => ?_
        obtain ⟨z1, z2⟩ := ab_set (c' := .inl (n, .inl (ab_up f i.toNatClampNeg x))) hR hS hσ rfl rfl z oq (by
          show H1[_]? = some (vp_cell _ _)
          rw [e1, vp_cell_i]
          show some ((vp_cell _ (n, .inl f)).setSlot _ _) = _
          rw [vp_cell_i, arrV_store, ab_updV_i]
          rfl)
        exact k H1 _ ls' cells slots z1 z2 hl h1 h2 h3 h4
    · cases h
  · cases h
theorem sn_last (hd : decode M.2.1 pc = .ok (.lastore, 1)) : ab_Ok1 M pc ab_last := by
  intro ls st σ r h K p l e R s m args below meth c X hdp c0 s0 Q g k H locs ls' cells slots hR hS hl h1 h2 h3 h4
  unfold ab_last at h
  split at h
  · rename_i x i a r9
    split at h
    · rename_i n f hσ
      split at h
      · cases h
      · rename_i hin
        cases h
        refine W.last X.1 X.2.1 (ab_gat hR hσ rfl) ((X.2.2.2.2.2.2.2.1.2 1 _ rfl).1 n (fun j => .long (f j))) (fun q => by cases q) (by show ¬ (_ < 0 ∨ (arrV _ _ _).slots.size ≤ _); rw [arrV_size]; exact hin) rfl rfl hd fun H1 e1 z oq => ?_
        obtain ⟨z1, z2⟩ := ab_set (c' := .inl (n, .inr (.inl (ab_up f i.toNatClampNeg x)))) hR hS hσ rfl rfl z oq (by
          show H1[_]? = some (vp_cell _ _)
          rw [e1, vp_cell_l]
          show some ((vp_cell _ (n, .inr (.inl f))).setSlot _ _) = _
          rw [vp_cell_l, arrV_store, ab_updV_l]
          rfl)
        exact k H1 _ ls' cells slots z1 z2 hl h1 h2 h3 h4
    · cases h
  · cases h
theorem ab_updV_q (ad : Nat → Nat) (f : Nat → Option Nat) (k x : Nat) : updV (fun j => va_rf ((f j).map ad)) k (.ref (ad x)) = fun j => va_rf ((ab_up f k (some x) j).map ad) := by
  funext q
  by_cases hq : q = k
  · subst hq
    simp [updV, ab_up, va_rf]
  · simp [updV, ab_up, hq]
theorem sn_aast {N : Nat} {T : u_T} {ci : Nat} (hc : ab_cl[ci]? = some (ab_pc, T, N)) (hd : decode M.2.1 pc = .ok (.aastore, 1)) : ab_Ok1 M pc (ab_aast ci) := by
  intro ls st σ r h K p l e R s m args below meth c X hdp c0 s0 Q g k H locs ls' cells slots hR hS hl h1 h2 h3 h4
  unfold ab_aast at h
  split at h
  · rename_i x i a r9
    split at h
    · rename_i n f c9 fs9 hσ hσx
      split at h
      · cases h
      · rename_i hin
        split at h
        · rename_i hci
          subst hci
          cases h
          have hK := X.2.2.2.2.2.2.2.1
          obtain ⟨r', hr', cellV, g1, g2, g3, -⟩ := ab_gat hR hσx rfl
          have hcls := (hK.1 c9 _ hc).2
          obtain ⟨kA, comp, k1, k2, k3, -⟩ := (hK.2 2 _ rfl).2
          have hcomp : comp = K.1.1 c9 := Option.some.inj (k3.symm.trans hcls.1)
          subst hcomp
          obtain ⟨kC, hkC, -⟩ := hcls.2
          refine W.aast X.1 X.2.1 (ab_gat hR hσ rfl) (fun q h => by cases h) (fun h => by cases h) k1 k2 rfl hkC ⟨fun q => hin (Or.inl q), by show _ < (arrV _ _ _).slots.size; rw [arrV_size]; exact Nat.not_le.mp fun q => hin (Or.inr q)⟩ g1 (fun q h => by rw [g3] at h; cases h) (by rw [g2]; exact hkC) (by rw [g2]; exact va_assign hcls) rfl rfl hd fun H1 e1 z oq => ?_
          obtain ⟨z1, z2⟩ := ab_set (c' := .inl (n, .inr (.inr (.inr (.inr (ab_up f i.toNatClampNeg (some x))))))) hR hS hσ rfl rfl z oq (by
            show H1[_]? = some (vp_cell _ _)
            rw [e1, vp_cell_q]
            show some ((vp_cell _ (n, .inr (.inr (.inr (.inr (fun j => (f j).map (ab_ad K))))))).setSlot _ _) = _
            rw [vp_cell_q, arrV_store, ab_updV_q]
            rfl)
          exact k H1 _ ls' cells slots z1 z2 hl h1 h2 h3 h4
        · cases h
    · cases h
  · cases h
end AbHeap
