/-! ===== the makings; what is kept from a frame to a called one ===== -/
theorem ab_grow {K : ab_K} {s : State} {g : ab_G} {σ : ab_S} {H H1 : Heap} {locs : List Loc} {x : ab_C} {n : Nat} (hR : ab_RW K s (g, σ) H) (hg : g.1 = true) (hb : K.2.2.1 ≤ s.heap.size) (hS : va_S (ab_A K) s.heap H locs) (hx : ab_ro x = false) (hz : H1.size = H.size + 1) (oq : ∀ q : Nat, q < H.size → H1[q]? = H[q]?) (hat : va_at K.1 ab_cl (H.size, ab_c K x) H1) :
    ab_RW K s (ab_mk g σ x n) H1 ∧ va_S (ab_A K) s.heap H1 locs ∧ ab_ad K g.2.1 = H.size := by
  obtain ⟨⟨⟨ws, hP, hD, hi⟩, ht⟩, hf⟩ := hR
  have hf1 : H.size + 3 = K.2.2.1 + g.2.1 := hf hg
  have hle : K.2.2.1 ≤ H.size := Nat.le_trans hb hS.1
  have had : ab_ad K g.2.1 = H.size := by
    unfold ab_ad
    rw [if_neg (by omega)]
    omega
  have hk : ∀ (k : Nat) (y : Nat × va_E), ws[k]? = some y → H1[y.1]? = H[y.1]? := fun k y hy => oq y.1 ((hP k y hy).lt)
  refine ⟨⟨⟨⟨ws ++ [(H.size, ab_c K x)], (hP.kept hk).app (fun k y hy => ?_), hD.push hP rfl hle, fun i c hic hc => ?_⟩, fun i n f hif => ?_⟩, fun _ => ?_⟩, ⟨Nat.le_trans hS.1 (by omega), fun q h1 h2 => (oq q (Nat.lt_of_lt_of_le h1 hS.1)).trans (hS.2.1 q h1 h2), hS.2.2⟩, had⟩
  · have hz1 : k < 1 := (List.getElem?_eq_some_iff.mp hy).1
    rw [show k = 0 by omega] at hy
    cases hy
    exact hat
  · have hic : ab_up σ g.2.1 (some x) i = some c := hic
    unfold ab_up at hic
    by_cases e : i = g.2.1
    · rw [if_pos e] at hic
      cases hic
      subst e
      refine ⟨by omega, ws.length, ?_⟩
      rw [had, List.getElem?_append_right (Nat.le_refl _), Nat.sub_self]
      rfl
    · rw [if_neg e] at hic
      obtain ⟨h3, k, hk⟩ := hi i c hic hc
      refine ⟨h3, k, ?_⟩
      rw [List.getElem?_append_left (List.getElem?_eq_some_iff.mp hk).1]
      exact hk
  · have hif : ab_up σ g.2.1 (some x) i = some (ab_ra n f) := hif
    unfold ab_up at hif
    by_cases e : i = g.2.1
    · rw [if_pos e] at hif
      cases hif
      cases hx
    · rw [if_neg e] at hif
      exact ht i n f hif
  · show H1.size + 3 = K.2.2.1 + (g.2.1 + 1)
    omega
def ab_OkN (M : ab_M) (pc : Nat) (al : ab_N) (n : Nat) : Prop := ∀ (ls : ab_L) (st : List Value) (q : ab_C × Nat × List Value), al st = some q → ∀ (K : ab_K) (p : Program) (l : Launch) (e : Env) (R : Room) (s : State) (m : MethodId) (args : Array Value) (below : List Frame) (meth : Method) (c : Code), ab_X M K p l R s m args meth c →
  ∀ (c0 s0 : Nat) (Q : State → Prop) (g : ab_G) (σ : ab_S), g.1 = true → g.2.2.1 + 1 ≤ c0 + R.cells → g.2.2.2 + q.2.1 ≤ s0 + R.slots → ab_J K p l e R s m args below meth c c0 s0 Q (pc + n) ls (.ref g.2.1 :: q.2.2) (ab_mk g σ q.1 q.2.1) → ab_J K p l e R s m args below meth c c0 s0 Q pc ls st (g, σ)
section AbMake
variable {M : ab_M} {pc : Nat}
theorem sn_new {ci N idx : Nat} {C : String} {T : u_T} {ty0 : Nat → FieldType} {fs : List Value} (hd : decode M.2.1 pc = .ok (.new idx, 3)) (hc : ab_cl[ci]? = some (C, T, N)) (hT : ab_tab C T N ty0) (w1 : Cond.classLink M.1.cls idx C ∈ ab_all) (w2 : Cond.instantiable C N ∈ ab_all) (w3 : Cond.initialized C ∈ ab_all) (hfs : ∀ j, j < N → defaultValue (ty0 j) = vp_V fs j) (hl : fs.length = N) (hm : ∀ K, fs.map (ab_v K) = fs) : ab_OkN M pc (ab_new ci fs) 3 := by
  intro ls st q h K p l e R s m args below meth c X c0 s0 Q g σ hg hc1 hc2 k H locs ls' cells slots hR hS hl9 h1 h2 h3 h4
  cases h
  subst hl
  have hts := X.2.2.2.2.2.1
  have hKn := X.2.2.2.2.2.2.2.1.1 ci _ hc
  have h1 : g.2.2.1 = c0 + cells := h1
  have h2 : g.2.2.2 = s0 + slots := h2
  have hc2 : g.2.2.2 + fs.length ≤ s0 + R.slots := hc2
  refine W.newcK X.1 X.2.1 X.2.2.2.2.1 (hts _ w1) (hts _ w2) (hts _ w3) rfl hd (by omega) (by omega) hKn.2.1 rfl fun H1 kC hkC e1 z1 o1 => ?_
  obtain ⟨z2, z3, z4⟩ := ab_grow (x := .inr (ci, fs)) (n := fs.length) hR hg X.2.2.2.2.2.2.2.2.1.2.2.2.2.2.2.2.1 hS rfl z1 o1 ⟨_, hc, by
    show t_OB _ _ _ _ _ (vp_V (fs.map (ab_v K)))
    rw [hm]
    exact (u_born ty0 hts hT.1 hKn hkC e1 hT.2.1).to hfs⟩
  have k9 := k H1 locs ls' (cells + 1) (slots + fs.length) z2 z3 hl9 (by show g.2.2.1 + 1 = _; omega) (by show g.2.2.2 + fs.length = _; omega) (by omega) (by omega)
  rw [List.map_cons] at k9
  rw [show ab_v K (.ref g.2.1) = .ref H.size by rw [← z4]; rfl] at k9
  exact k9
theorem ab_cell_i (cA : ClassId) (n : Nat) : arrV cA n (fun _ => defaultValue .int) = vp_cell cA (n, .inl (fun _ => 0)) := rfl
theorem sn_newi (hd : decode M.2.1 pc = .ok (.newarray .int, 2)) (w1 : Cond.arrayClass .int ∈ ab_all) : ab_OkN M pc ab_newi 2 := by
  intro ls st q h K p l e R s m args below meth c X c0 s0 Q g σ hg hc1 hc2 k H locs ls' cells slots hR hS hl9 h1 h2 h3 h4
  unfold ab_newi at h
  split at h
  · rename_i n r
    split at h
    · cases h
    · rename_i hn
      cases h
      have hts := X.2.2.2.2.2.1
      have h1 : g.2.2.1 = c0 + cells := h1
      have h2 : g.2.2.2 = s0 + slots := h2
      have hc2 : g.2.2.2 + n.toNatClampNeg ≤ s0 + R.slots := hc2
      have h60 : n.toNatClampNeg ≤ 60000 := Nat.not_lt.mp fun z => hn (Or.inr z)
      refine va_newaK (atype := .int) X.1 X.2.1 (hts _ w1) rfl hd rfl (fun z => hn (Or.inl z)) rfl (by show n.toNatClampNeg * 4 ≤ 536870912; omega) (by omega) (by omega) rfl fun H1 cA e1 z1 o1 hAr hNm => ?_
      have hcA : cA = K.2.1.1 := Option.some.inj (hNm.symm.trans (X.2.2.2.2.2.2.2.1.2 0 _ rfl).2)
      subst hcA
      obtain ⟨z2, z3, z4⟩ := ab_grow (x := .inl (n.toNatClampNeg, .inl (fun _ => 0))) (n := n.toNatClampNeg) hR hg X.2.2.2.2.2.2.2.2.1.2.2.2.2.2.2.2.1 hS rfl z1 o1 e1
      have k9 := k H1 locs ls' (cells + 1) (slots + n.toNatClampNeg) z2 z3 hl9 (by show g.2.2.1 + 1 = _; omega) (by show g.2.2.2 + n.toNatClampNeg = _; omega) (by omega) (by omega)
      rw [List.map_cons] at k9
      rw [show ab_v K (.ref g.2.1) = .ref H.size by rw [← z4]; rfl] at k9
      exact k9
  · cases h
theorem sn_newl (hd : decode M.2.1 pc = .ok (.newarray .long, 2)) (w1 : Cond.arrayClass .long ∈ ab_all) : ab_OkN M pc ab_newl 2 := by
  intro ls st q h K p l e R s m args below meth c X c0 s0 Q g σ hg hc1 hc2 k H locs ls' cells slots hR hS hl9 h1 h2 h3 h4
  unfold ab_newl at h
  split at h
  · rename_i n r
    split at h
    · cases h
    · rename_i hn
      cases h
      have hts := X.2.2.2.2.2.1
      have h1 : g.2.2.1 = c0 + cells := h1
      have h2 : g.2.2.2 = s0 + slots := h2
      have hc2 : g.2.2.2 + n.toNatClampNeg ≤ s0 + R.slots := hc2
      have h60 : n.toNatClampNeg ≤ 60000 := Nat.not_lt.mp fun z => hn (Or.inr z)
      refine va_newaK (atype := .long) X.1 X.2.1 (hts _ w1) rfl hd rfl (fun z => hn (Or.inl z)) rfl (by show n.toNatClampNeg * 8 ≤ 536870912; omega) (by omega) (by omega) rfl fun H1 cA e1 z1 o1 hAr hNm => ?_
      have hcA : cA = K.2.1.2.1 := Option.some.inj (hNm.symm.trans (X.2.2.2.2.2.2.2.1.2 1 _ rfl).2)
      subst hcA
      obtain ⟨z2, z3, z4⟩ := ab_grow (x := .inl (n.toNatClampNeg, .inr (.inl (fun _ => 0)))) (n := n.toNatClampNeg) hR hg X.2.2.2.2.2.2.2.2.1.2.2.2.2.2.2.2.1 hS rfl z1 o1 e1
      have k9 := k H1 locs ls' (cells + 1) (slots + n.toNatClampNeg) z2 z3 hl9 (by show g.2.2.1 + 1 = _; omega) (by show g.2.2.2 + n.toNatClampNeg = _; omega) (by omega) (by omega)
      rw [List.map_cons] at k9
      rw [show ab_v K (.ref g.2.1) = .ref H.size by rw [← z4]; rfl] at k9
      exact k9
  · cases h
theorem sn_newq {idx : Nat} (hd : decode M.2.1 pc = .ok (.anewarray idx, 3)) (w1 : Cond.classLink M.1.cls idx ab_pc ∈ ab_all) : ab_OkN M pc ab_newq 3 := by
  intro ls st q h K p l e R s m args below meth c X c0 s0 Q g σ hg hc1 hc2 k H locs ls' cells slots hR hS hl9 h1 h2 h3 h4
  unfold ab_newq at h
  split at h
  · rename_i n r
    split at h
    · cases h
    · rename_i hn
      cases h
      have hts := X.2.2.2.2.2.1
      have h1 : g.2.2.1 = c0 + cells := h1
      have h2 : g.2.2.2 = s0 + slots := h2
      have hc2 : g.2.2.2 + n.toNatClampNeg ≤ s0 + R.slots := hc2
      have h60 : n.toNatClampNeg ≤ 60000 := Nat.not_lt.mp fun z => hn (Or.inr z)
      refine W.anew X.1 X.2.1 X.2.2.2.2.1 (hts _ w1) (va_AO.use X.2.2.2.2.2.2.2.2.1.2.2.2.2.2.2.1) rfl hd rfl (fun z => hn (Or.inl z)) (by omega) (by omega) (by omega) fun cA kA comp f1 f2 f3 f4 => ?_
      obtain ⟨kA9, comp9, -, -, -, hNm⟩ := (X.2.2.2.2.2.2.2.1.2 2 _ rfl).2
      have hcA : cA = K.2.1.2.2 := Option.some.inj (f1.symm.trans hNm)
      subst hcA
      generalize hH1 : H.push ({ cls := K.2.1.2.2, slots := Array.replicate n.toNatClampNeg .null, vm := .none } : Cell) = H1
      have z1 : H1.size = H.size + 1 := by rw [← hH1, Array.size_push]
      have e1 : H1[H.size]? = some (arrV K.2.1.2.2 n.toNatClampNeg (fun _ => .null)) := by rw [← hH1, Array.getElem?_push_size, ← arrV_new]
      have o1 : ∀ q : Nat, q < H.size → H1[q]? = H[q]? := fun q hq => by rw [← hH1, Array.getElem?_push, if_neg (Nat.ne_of_lt hq)]
      have eq : arrV K.2.1.2.2 n.toNatClampNeg (fun _ => .null) = arrV K.2.1.2.2 n.toNatClampNeg (fun j => va_rf ((ab_nq n.toNatClampNeg j).map (ab_ad K))) := by
        unfold arrV
        congr 1
        congr 1
        funext j
        have hj : ab_nq n.toNatClampNeg j.val = none := if_pos j.isLt
        show Value.null = va_rf (Option.map (ab_ad K) (ab_nq n.toNatClampNeg j.val))
        rw [hj]
        rfl
      rw [eq] at e1
      obtain ⟨z2, z3, z4⟩ := ab_grow (x := .inl (n.toNatClampNeg, .inr (.inr (.inr (.inr (ab_nq n.toNatClampNeg)))))) (n := n.toNatClampNeg) hR hg X.2.2.2.2.2.2.2.2.1.2.2.2.2.2.2.2.1 hS rfl z1 o1 e1
      have k9 := k H1 locs ls' (cells + 1) (slots + n.toNatClampNeg) z2 z3 hl9 (by show g.2.2.1 + 1 = _; omega) (by show g.2.2.2 + n.toNatClampNeg = _; omega) (by omega) (by omega)
      rw [List.map_cons] at k9
      rw [show ab_v K (.ref g.2.1) = .ref H.size by rw [← z4]; rfl] at k9
      exact k9
  · cases h
end AbMake
/-! kept over a call -/
theorem ab_odd_warm {s U : State} (hW : s.WarmedH U.vm) (h : ∀ w ∈ ab_odd, va_Nw w s) : ∀ w ∈ ab_odd, va_Nw w U := by
  intro w hw
  have h1 := h w hw
  have h2 : ab_oddk w = true := (List.mem_filter.mp hw).2
  cases w <;> first | (cases h2; done) | exact va_Nw.warmM hW h1 | exact va_Nw.warmF hW h1 | exact va_Nw.warmC hW h1 | exact va_Nw.warmD hW h1
theorem ab_Env_warm {K : ab_K} {s U : State} {H : Heap} {locs : List Loc} (hW : s.WarmedH U.vm) (hS : va_S (ab_A K) s.heap H locs) (hU : U.heap = H) (h : ab_Env K s) : ab_Env K U := by
  obtain ⟨e1, e2, e3, e4, e5, e6, e7, e8, e9⟩ := h
  subst hU
  have hk := hS.2.1
  refine ⟨ab_odd_warm hW e1, fun q hq => ?_, vx_Zq.moved hW.alike (e3.kept hk), vx_Zq.moved hW.alike (e4.kept hk), va_Z.moved hW.alike (e5.kept hk), va_Z.moved hW.alike (e6.kept hk), va_AO.moved hW.alike e7, Nat.le_trans e8 hS.1, fun q hq => va_Nc.moved hW.alike (e9 q hq)⟩
  obtain ⟨a, ha⟩ := e2 q hq
  exact ⟨a, vk_R.warm hW ha⟩
theorem ab_Rep_warm {K : ab_K} {s U : State} {σ : ab_S} {H : Heap} {locs : List Loc} (hW : s.vm.Alike U.vm) (hS : va_S (ab_A K) s.heap H locs) (hU : U.heap = H) (h : ab_Rep K s σ H) : ab_Rep K U σ H := by
  subst hU
  exact ⟨h.1, fun i n f hi => va_T.moved hW ((h.2 i n f hi).kept hS.2.1)⟩
/-- back from a called frame: the arrays that are read alone lie where they lay -/
theorem ab_Rep_back {K : ab_K} {s U : State} {σ : ab_S} {H H1 : Heap} {locs : List Loc} (hb : K.2.2.1 ≤ s.heap.size) (hW : U.vm.Alike s.vm) (hS : va_S (ab_A K) s.heap H locs) (hU : U.heap = H) (h : ab_Rep K U σ H1) : ab_Rep K s σ H1 := by
  subst hU
  refine ⟨h.1, fun i n f hi => ?_⟩
  obtain ⟨cell, g1, g2, g3⟩ := h.2 i n f hi
  have hA : ¬ ab_A K (ab_ad K i) := g3.2.2.2.2
  have hlt : ab_ad K i < s.heap.size := Nat.lt_of_lt_of_le (Nat.not_le.mp hA) hb
  exact va_T.moved hW ⟨cell, by rw [← hS.2.1 _ hlt hA]; exact g1, g2, g3⟩
def ab_exc : Nat → String
  | 0 => "java/lang/IllegalStateException"
  | 1 => "java/lang/IllegalArgumentException"
  | _ => "java/lang/IndexOutOfBoundsException"
def ab_Pc (K : ab_K) (as : List Value) (w : ab_W) : Array Value → State → Prop := fun a U => a = (as.map (ab_v K)).toArray ∧ ab_RW K U w U.heap ∧ va_K K.1 ab_cl (ab_tys K) U ∧ ab_Env K U
def ab_Qc (K : ab_K) (v : Option Value) (w' : ab_W) : Array Value → State → Outcome → State → Prop := fun _ st oc t => oc = .returned (v.map (ab_v K)) ∧ ab_RW K t w' t.heap ∧ va_F (ab_A K) st t
def ab_Xc (K : ab_K) (E : Nat) (w' : ab_W) : String → State → State → Prop := fun C st t => C = ab_exc E ∧ ab_RW K t w' t.heap ∧ va_F (ab_A K) st t
theorem ab_blind (K : ab_K) (as : List Value) (w : ab_W) : FrameBlind (ab_Pc K as w) := by
  intro a U g mk ⟨h1, h2, h3, h4⟩
  refine ⟨h1, ⟨⟨h2.1.1, fun i n f hi => va_T.moved (u := U) (U := U.calling g mk a) (Vm.Alike.refl U.vm) (h2.1.2 i n f hi)⟩, h2.2⟩, va_K.moved (u := U) (U := U.calling g mk a) (Vm.Alike.refl U.vm) h3, ?_⟩
  obtain ⟨e1, e2, e3, e4, e5, e6, e7, e8, e9⟩ := h4
  refine ⟨fun w hw => ?_, fun q hq => ?_, vx_Zq.moved (u := U) (U := U.calling g mk a) (Vm.Alike.refl U.vm) e3, vx_Zq.moved (u := U) (U := U.calling g mk a) (Vm.Alike.refl U.vm) e4, va_Z.moved (u := U) (U := U.calling g mk a) (Vm.Alike.refl U.vm) e5, va_Z.moved (u := U) (U := U.calling g mk a) (Vm.Alike.refl U.vm) e6, va_AO.moved (u := U) (U := U.calling g mk a) (Vm.Alike.refl U.vm) e7, e8, fun q hq => va_Nc.moved (u := U) (U := U.calling g mk a) (Vm.Alike.refl U.vm) (e9 q hq)⟩
  · exact va_Nw.same (by
      have h2 : ab_oddk w = true := (List.mem_filter.mp hw).2
      cases w <;> first | (cases h2; done) | rfl) (u := U) rfl (e1 w hw)
  · obtain ⟨a9, ha⟩ := e2 q hq
    exact ⟨a9, vk_R.same (u := U) rfl ha⟩
