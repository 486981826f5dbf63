/-! ===== arrays' lengths and copies, Math, Object(), statics; the makings ===== -/
section AbMore
variable {M : ab_M} {pc : Nat}
theorem ab_room (hdp : 2 ≤ M.2.2.2.2.1) {K : ab_K} {p : Program} {l : Launch} {R : Room} {s : State} {m : MethodId} {args : Array Value} {meth : Method} {c : Code} (X : ab_X M K p l R s m args meth c) : 2 ≤ R.frames ∧ 72 ≤ R.locals := by
  have h1 := X.2.2.2.2.2.2.2.2.2.1
  have h2 := X.2.2.2.2.2.2.2.2.2.2.1
  exact ⟨Nat.le_trans hdp h1, by omega⟩
theorem sn_alen (hd : decode M.2.1 pc = .ok (.arraylength, 1)) : ab_Ok1 M pc ab_alen := by
  intro ls st σ r h K p l e R s m args below meth c X hdp c0 s0 Q g k H locs ls' cells slots hR hS hl h1 h2 h3 h4
  unfold ab_alen at h
  split at h
  · split at h
    · rename_i n f hσ
      cases h
      obtain ⟨⟨ws, hP, hD, hi⟩, -⟩ := hR.1
      obtain ⟨-, q0, hq⟩ := hi _ _ hσ rfl
      exact va_alen X.1 X.2.1 X.2.2.2.2.2.2.2.1 hP q0 0 hq rfl rfl hd (k H locs ls' cells slots hR hS hl h1 h2 h3 h4)
    · rename_i n f hσ
      cases h
      obtain ⟨cell, g1, g2, g3, g4, g5, g6, g7⟩ := hR.1.2 _ _ _ hσ
      exact W.alen X.1 X.2.1 (by rw [hS.2.1 _ (Array.getElem?_eq_some_iff.mp g1).1 g7]; exact g1) g2 g5 rfl rfl hd (k H locs ls' cells slots hR hS hl h1 h2 h3 h4)
    · rename_i n f hσ
      cases h
      obtain ⟨⟨ws, hP, hD, hi⟩, -⟩ := hR.1
      obtain ⟨-, q0, hq⟩ := hi _ _ hσ rfl
      exact va_alen X.1 X.2.1 X.2.2.2.2.2.2.2.1 hP q0 2 hq rfl rfl hd (k H locs ls' cells slots hR hS hl h1 h2 h3 h4)
    · cases h
  · cases h
theorem sn_maxi {idx : Nat} (hd : decode M.2.1 pc = .ok (.invokestatic idx, 3)) (w1 : Cond.methodLink M.1.cls idx Lib.Math.max.name ∈ ab_all) (w2 : Cond.static Lib.Math.max.name ∈ ab_all) (w3 : Cond.initialized "java/lang/Math" ∈ ab_all) (w4 : Cond.code Lib.Math.max.name Lib.Math.max.code 2 (some .int) ∈ ab_all) : ab_Ok1 M pc ab_maxi := by
  intro ls st σ r h K p l e R s m args below meth c X hdp c0 s0 Q g k H locs ls' cells slots hR hS hl h1 h2 h3 h4
  unfold ab_maxi at h
  split at h
  · split at h
    · rename_i h8
      cases h
      have hrm := ab_room hdp X
      have hts := X.2.2.2.2.2.1
      exact va_mmax X.1 X.2.1 hl.1.symm X.2.2.2.2.1 (hts _ w1) (hts _ w2) (hts _ w3) (hts _ w4) (by omega) (by rw [ab_cats]; omega) h3 h4 hd (k H locs ls' cells slots hR hS hl h1 h2 h3 h4)
    · cases h
  · cases h
theorem sn_mini {idx : Nat} (hd : decode M.2.1 pc = .ok (.invokestatic idx, 3)) (w1 : Cond.methodLink M.1.cls idx Lib.Math.min.name ∈ ab_all) (w2 : Cond.static Lib.Math.min.name ∈ ab_all) (w3 : Cond.initialized "java/lang/Math" ∈ ab_all) (w4 : Cond.code Lib.Math.min.name Lib.Math.min.code 2 (some .int) ∈ ab_all) : ab_Ok1 M pc ab_mini := by
  intro ls st σ r h K p l e R s m args below meth c X hdp c0 s0 Q g k H locs ls' cells slots hR hS hl h1 h2 h3 h4
  unfold ab_mini at h
  split at h
  · split at h
    · rename_i h8
      cases h
      have hrm := ab_room hdp X
      have hts := X.2.2.2.2.2.1
      exact va_mmin X.1 X.2.1 hl.1.symm X.2.2.2.2.1 (hts _ w1) (hts _ w2) (hts _ w3) (hts _ w4) (by omega) (by rw [ab_cats]; omega) h3 h4 hd (k H locs ls' cells slots hR hS hl h1 h2 h3 h4)
    · cases h
  · cases h
theorem sn_maxl {idx : Nat} (hd : decode M.2.1 pc = .ok (.invokestatic idx, 3)) (w1 : Cond.methodLink M.1.cls idx Lib.MathLoose.max_long.x ∈ ab_all) (w2 : Cond.static Lib.MathLoose.max_long.x ∈ ab_all) (w3 : Cond.initialized "java/lang/Math" ∈ ab_all) (w4 : Cond.code Lib.MathLoose.max_long.x Lib.MathLoose.max_long.code 4 (some .long) ∈ ab_all) : ab_Ok1 M pc ab_maxl := by
  intro ls st σ r h K p l e R s m args below meth c X hdp c0 s0 Q g k H locs ls' cells slots hR hS hl h1 h2 h3 h4
  unfold ab_maxl at h
  split at h
  · split at h
    · rename_i h8
      cases h
      have hrm := ab_room hdp X
      have hts := X.2.2.2.2.2.1
      exact va_mmax_long X.1 X.2.1 hl.1.symm X.2.2.2.2.1 (hts _ w1) (hts _ w2) (hts _ w3) (hts _ w4) (by omega) (by rw [ab_cats]; omega) h3 h4 hd (k H locs ls' cells slots hR hS hl h1 h2 h3 h4)
    · cases h
  · cases h
theorem sn_minl {idx : Nat} (hd : decode M.2.1 pc = .ok (.invokestatic idx, 3)) (w1 : Cond.methodLink M.1.cls idx Lib.MathLoose.min_long.x ∈ ab_all) (w2 : Cond.static Lib.MathLoose.min_long.x ∈ ab_all) (w3 : Cond.initialized "java/lang/Math" ∈ ab_all) (w4 : Cond.code Lib.MathLoose.min_long.x Lib.MathLoose.min_long.code 4 (some .long) ∈ ab_all) : ab_Ok1 M pc ab_minl := by
  intro ls st σ r h K p l e R s m args below meth c X hdp c0 s0 Q g k H locs ls' cells slots hR hS hl h1 h2 h3 h4
  unfold ab_minl at h
  split at h
  · split at h
    · rename_i h8
      cases h
      have hrm := ab_room hdp X
      have hts := X.2.2.2.2.2.1
      exact va_mmin_long X.1 X.2.1 hl.1.symm X.2.2.2.2.1 (hts _ w1) (hts _ w2) (hts _ w3) (hts _ w4) (by omega) (by rw [ab_cats]; omega) h3 h4 hd (k H locs ls' cells slots hR hS hl h1 h2 h3 h4)
    · cases h
  · cases h
theorem sn_oini {idx : Nat} (hd : decode M.2.1 pc = .ok (.invokespecial idx, 3)) (w1 : Cond.methodLink M.1.cls idx Lib.objectInit ∈ ab_all) (w2 : Cond.instanceMethod Lib.objectInit ∈ ab_all) (w3 : Cond.code Lib.objectInit ⟨#[0xb1]⟩ 1 none ∈ ab_all) : ab_Ok1 M pc ab_oini := by
  intro ls st σ r h K p l e R s m args below meth c X hdp c0 s0 Q g k H locs ls' cells slots hR hS hl h1 h2 h3 h4
  unfold ab_oini at h
  split at h
  · rename_i a r9
    split at h
    · rename_i h8
      cases h
      have hrm := ab_room hdp X
      have hts := X.2.2.2.2.2.1
      refine W.objInit X.1 X.2.1 X.2.2.2.2.1 (hts _ w1) (hts _ w2) (hts _ w3) rfl hl.1 (a := ab_ad K a) (rest := r9.map (ab_v K)) rfl hd (by omega) (by show 2 * 0 + _ + 12 ≤ _; rw [ab_cats]; omega) ?_
      exact k H locs ls' cells slots hR hS hl h1 h2 h3 h4
    · cases h
  · cases h
theorem sn_bits {idx : Nat} (hd : decode M.2.1 pc = .ok (.invokestatic idx, 3)) (w1 : Cond.methodLink M.1.cls idx ⟨"java/lang/Double", "doubleToRawLongBits", "(D)J"⟩ ∈ ab_all) (w2 : Cond.native ⟨"java/lang/Double", "doubleToRawLongBits", "(D)J"⟩ ∈ ab_all) (w3 : Cond.static ⟨"java/lang/Double", "doubleToRawLongBits", "(D)J"⟩ ∈ ab_all) (w4 : Cond.initialized "java/lang/Double" ∈ ab_all) : ab_Ok1 M pc ab_bits := by
  intro ls st σ r h K p l e R s m args below meth c X hdp c0 s0 Q g k H locs ls' cells slots hR hS hl h1 h2 h3 h4
  unfold ab_bits at h
  split at h
  · split at h
    · rename_i h8
      cases h
      have hrm := ab_room hdp X
      have hts := X.2.2.2.2.2.1
      exact vn_d2l X.1 X.2.1 hl.1.symm X.2.2.2.2.1 (hts _ w1) (hts _ w2) (hts _ w3) (hts _ w4) (by omega) (by rw [ab_cats]; omega) hd (k H locs ls' cells slots hR hS hl h1 h2 h3 h4)
    · cases h
  · cases h
theorem sn_gets1 {idx : Nat} (hd : decode M.2.1 pc = .ok (.getstatic idx, 3)) (w1 : Cond.fieldLink M.1.cls idx "TempoPlayer" "LEAST_VALUES" "[I" ∈ ab_all) : ab_Ok1 M pc (ab_push (.ref 1) 3) := by
  intro ls st σ r h K p l e R s m args below meth c X hdp c0 s0 Q g k H locs ls' cells slots hR hS hl h1 h2 h3 h4
  cases h
  exact va_gets X.1 X.2.1 X.2.2.2.2.2.2.2.2.1.2.2.2.2.1 hS X.2.2.2.2.1 (X.2.2.2.2.2.1 _ w1) (fun _ h => h) hd (k H locs ls' cells slots hR hS hl h1 h2 h3 h4)
theorem sn_gets2 {idx : Nat} (hd : decode M.2.1 pc = .ok (.getstatic idx, 3)) (w1 : Cond.fieldLink M.1.cls idx "TempoPlayer" "MOST_VALUES" "[I" ∈ ab_all) : ab_Ok1 M pc (ab_push (.ref 2) 3) := by
  intro ls st σ r h K p l e R s m args below meth c X hdp c0 s0 Q g k H locs ls' cells slots hR hS hl h1 h2 h3 h4
  cases h
  exact va_gets X.1 X.2.1 X.2.2.2.2.2.2.2.2.1.2.2.2.2.2.1 hS X.2.2.2.2.1 (X.2.2.2.2.2.1 _ w1) (fun _ h => h) hd (k H locs ls' cells slots hR hS hl h1 h2 h3 h4)
theorem sn_gets1N {idx : Nat} (hd : decode M.2.1 pc = .ok (.getstatic idx, 3)) (w1 : Cond.fieldLinkNest M.1.cls idx "TempoPlayer" "LEAST_VALUES" "[I" "TempoPlayer" ∈ ab_odd) : ab_Ok1 M pc (ab_push (.ref 1) 3) := by
  intro ls st σ r h K p l e R s m args below meth c X hdp c0 s0 Q g k H locs ls' cells slots hR hS hl h1 h2 h3 h4
  cases h
  exact va_getsN X.1 X.2.1 X.2.2.2.2.2.2.2.2.1.2.2.2.2.1 hS X.2.2.2.2.1 (va_Nw.use rfl (X.2.2.2.2.2.2.2.2.1.1 _ w1)) (fun _ h => h) hd (k H locs ls' cells slots hR hS hl h1 h2 h3 h4)
theorem sn_gets2N {idx : Nat} (hd : decode M.2.1 pc = .ok (.getstatic idx, 3)) (w1 : Cond.fieldLinkNest M.1.cls idx "TempoPlayer" "MOST_VALUES" "[I" "TempoPlayer" ∈ ab_odd) : ab_Ok1 M pc (ab_push (.ref 2) 3) := by
  intro ls st σ r h K p l e R s m args below meth c X hdp c0 s0 Q g k H locs ls' cells slots hR hS hl h1 h2 h3 h4
  cases h
  exact va_getsN X.1 X.2.1 X.2.2.2.2.2.2.2.2.1.2.2.2.2.2.1 hS X.2.2.2.2.1 (va_Nw.use rfl (X.2.2.2.2.2.2.2.2.1.1 _ w1)) (fun _ h => h) hd (k H locs ls' cells slots hR hS hl h1 h2 h3 h4)
theorem sn_copy {idx : Nat} (hd : decode M.2.1 pc = .ok (.invokestatic idx, 3)) (w1 : Cond.methodLink M.1.cls idx arraycopyName ∈ ab_all) (w2 : Cond.native arraycopyName ∈ ab_all) (w3 : Cond.static arraycopyName ∈ ab_all) (w4 : Cond.initialized "java/lang/System" ∈ ab_all) : ab_Ok1 M pc ab_copy := by
  intro ls st σ r h K p l e R s m args below meth c X hdp c0 s0 Q g k H locs ls' cells slots hR hS hl h1 h2 h3 h4
  unfold ab_copy at h
  split at h
  · rename_i n dp a sp b r9
    split at h
    · rename_i n0 f n1 g1 hσb hσa
      split at h
      · cases h
      · rename_i hh
        split at h
        · rename_i hh2
          cases h
          have hrm := ab_room hdp X
          have hts := X.2.2.2.2.2.1
          have h8 : (r9.map fun v => v.category).sum ≤ 8 := Classical.byContradiction fun z => hh (Or.inr z)
          have g1n : ¬ sp < 0 := fun z => hh (Or.inl (Or.inl z))
          have g2n : ¬ dp < 0 := fun z => hh (Or.inl (Or.inr (Or.inl z)))
          have g3n : ¬ n < 0 := fun z => hh (Or.inl (Or.inr (Or.inr z)))
          have nn : ∀ z : Int32, ¬ z < 0 → z.toInt = (z.toNatClampNeg : Int) := by
            intro z hz
            have hz0 : (0 : Int) ≤ z.toInt := by
              have := Int32.not_lt.mp hz
              simpa using Int32.le_iff_toInt_le.mp this
            show z.toInt = ((z.toInt.toNat : Nat) : Int)
            omega
          have hK := X.2.2.2.2.2.2.2.1
          have hcb : H[ab_ad K b]? = some (vp_cell K.2.1.1 (n0, .inl f)) := ab_gat hR hσb rfl
          have hca : H[ab_ad K a]? = some (vp_cell K.2.1.1 (n1, .inl g1)) := ab_gat hR hσa rfl
          intro T hT Y
          obtain ⟨-, k0, hk0, cm0, hkk0⟩ := (hK.2 0 _ rfl).1 n0 (fun j => .int (f j))
          obtain ⟨-, k1, hk1, cm1, hkk1⟩ := (hK.2 0 _ rfl).1 n1 (fun j => .int (g1 j))
          obtain ⟨vm', X', step⟩ := Y.arraycopy X.1 X.2.2.2.2.1 (hts _ w1) (hts _ w2) (hts _ w3) (hts _ w4) (src := ab_ad K b) (dst := ab_ad K a) (cs := vp_cell K.2.1.1 (n0, .inl f)) (cd := vp_cell K.2.1.1 (n1, .inl g1)) (srcPos := sp) (destPos := dp) (n := n) (by rw [hT]; exact hcb) (by rw [hT]; exact hca)
            (fun _ h => by cases h) (fun _ h => by cases h) (fun h => by cases h) (fun h => by cases h) hk0 hk1 hkk0 hkk1 (show (refKind .int != refKind .int || !refKind .int && .int != FieldType.int) = false by decide) g1n g2n g3n
            (by rw [nn sp g1n, nn n g3n]; show ¬ _ > ((arrV K.2.1.1 n0 (fun j => .int (f j))).slots.size : Int); rw [arrV_size]; omega)
            (by rw [nn dp g2n, nn n g3n]; show ¬ _ > ((arrV K.2.1.1 n1 (fun j => .int (g1 j))).slots.size : Int); rw [arrV_size]; omega)
            (fun vm₁ _ i hi => by
              have e : (vp_cell K.2.1.1 (n0, .inl f)).slots.getD (sp.toNatClampNeg + i) .null = .int (f (sp.toNatClampNeg + i)) := by
                show (arrV K.2.1.1 n0 (fun j => .int (f j))).slots.getD _ _ = _
                rw [Array.getD_eq_getD_getElem?, arrV_read _ _ (by omega)]
                rfl
              rw [e]
              exact ⟨rfl, trivial⟩)
            (g := F0 m pc ls' (.int n :: .int dp :: .ref (ab_ad K a) :: .int sp :: .ref (ab_ad K b) :: r9.map (ab_v K))) rfl hl.1 (rest := r9.map (ab_v K)) rfl (by rw [X.2.1]; exact hd) (by omega) (by have hnf : nativeFrameWords "java/lang/System" "arraycopy" 5 ≤ 10 := (by decide); show 2 * 0 + _ + _ ≤ _; rw [ab_cats]; omega)
          have e1 : copied (vp_cell K.2.1.1 (n0, .inl f)) (vp_cell K.2.1.1 (n1, .inl g1)) sp dp n = vp_cell K.2.1.1 (n1, .inl (va_cpy f g1 sp.toNatClampNeg dp.toNatClampNeg n.toNatClampNeg)) := va_copied (fun z => .int z) K.2.1.1 K.2.1.1 f g1 hh2.1
          rw [e1] at X' step
          have hlt : ab_ad K a < H.size := (Array.getElem?_eq_some_iff.mp hca).1
          obtain ⟨z1, z2⟩ := ab_set (j := 0) (H1 := H.setIfInBounds (ab_ad K a) (vp_cell K.2.1.1 (n1, .inl (ab_cpy f g1 sp.toNatClampNeg dp.toNatClampNeg n.toNatClampNeg)))) (c' := .inl (n1, .inl (ab_cpy f g1 sp.toNatClampNeg dp.toNatClampNeg n.toNatClampNeg))) hR hS hσa rfl rfl (by simp) (fun q hq => by simp [Array.getElem?_setIfInBounds, Ne.symm hq]) (by
            show (H.setIfInBounds (ab_ad K a) _)[ab_ad K a]? = some (vp_cell _ _)
            simp [Array.getElem?_setIfInBounds, hlt])
          obtain ⟨t, a1, b1⟩ := k _ _ ls' cells slots z1 ⟨z2.1, z2.2.1, fun q hq => by
            rcases List.mem_append.mp hq with h | h
            · exact hS.2.2 q h
            · obtain ⟨z, -, hz⟩ := List.mem_map.mp h
              rw [← hz]
              have h99 := z2.2.2 ⟨ab_ad K a, 0⟩ (List.mem_append_right _ List.mem_cons_self)
              exact h99⟩ hl h1 h2 h3 h4 _ (by rw [← hT]; rfl) X'
          exact ⟨t, step t a1, b1⟩
        · cases h
    · cases h
  · cases h
end AbMore
