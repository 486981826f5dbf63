/-! ===== pieces ===== -/
/-- a piece's content: bars, marks, cues; their cells -/
abbrev pv : Type := Nat × Nat × Nat × (Nat → Nat) × (Nat → Nat) × (Nat → Nat)
def pcs (σ : ab_S) (p : Nat) (P : pv) : Prop := σ p = some (ab_ob 2 [.ref (p + 1), .ref (p + 3), .ref (p + 5)]) ∧ tn σ (p + 1) 24 5 P.1 P.2.2.2.1 ∧ tn σ (p + 3) 11 3 P.2.1 P.2.2.2.2.1 ∧ tn σ (p + 5) 12 3 P.2.2.1 P.2.2.2.2.2
/-- it fits its tables -/
def pfit (P : pv) : Prop := P.1 ≤ 24 ∧ P.2.1 ≤ 11 ∧ P.2.2.1 ≤ 12
/-- the same rows -/
def eqv (P Q : pv) : Prop := P.1 = Q.1 ∧ P.2.1 = Q.2.1 ∧ P.2.2.1 = Q.2.2.1 ∧ (∀ j, j < 5 * P.1 → P.2.2.2.1 j = Q.2.2.2.1 j) ∧ (∀ j, j < 3 * P.2.1 → P.2.2.2.2.1 j = Q.2.2.2.2.1 j) ∧ (∀ j, j < 3 * P.2.2.1 → P.2.2.2.2.2 j = Q.2.2.2.2.2 j)
theorem eqv_r {P : pv} : eqv P P := ⟨rfl, rfl, rfl, fun _ _ => rfl, fun _ _ => rfl, fun _ _ => rfl⟩
theorem eqv_s {P Q : pv} (h : eqv P Q) : eqv Q P := by
  obtain ⟨h1, h2, h3, h4, h5, h6⟩ := h
  exact ⟨h1.symm, h2.symm, h3.symm, fun j hj => (h4 j (by omega)).symm, fun j hj => (h5 j (by omega)).symm, fun j hj => (h6 j (by omega)).symm⟩
theorem eqv_t {P Q R : pv} (h : eqv P Q) (k : eqv Q R) : eqv P R := by
  obtain ⟨h1, h2, h3, h4, h5, h6⟩ := h
  obtain ⟨k1, k2, k3, k4, k5, k6⟩ := k
  exact ⟨h1.trans k1, h2.trans k2, h3.trans k3, fun j hj => (h4 j hj).trans (k4 j (by omega)), fun j hj => (h5 j hj).trans (k5 j (by omega)), fun j hj => (h6 j hj).trans (k6 j (by omega))⟩
theorem pcs_of {σ σ' : ab_S} {p : Nat} {P : pv} (h : pcs σ p P) (f : ∀ i, p ≤ i → i < p + 7 → σ' i = σ i) : pcs σ' p P := by
  obtain ⟨h0, h1, h2, h3⟩ := h
  exact ⟨by rw [f p (by omega) (by omega)]; exact h0, tn_of h1 (f _ (by omega) (by omega)) (f _ (by omega) (by omega)), tn_of h2 (f _ (by omega) (by omega)) (f _ (by omega) (by omega)), tn_of h3 (f _ (by omega) (by omega)) (f _ (by omega) (by omega))⟩
/-- the world with the piece at p set -/
def pcw (σ : ab_S) (p : Nat) (P : pv) : ab_S := tnw (tnw (tnw σ (p + 1) 24 5 P.1 P.2.2.2.1) (p + 3) 11 3 P.2.1 P.2.2.2.2.1) (p + 5) 12 3 P.2.2.1 P.2.2.2.2.2
theorem pcw_ne {σ : ab_S} {p i : Nat} {P : pv} (h : i ≤ p ∨ p + 7 ≤ i) : pcw σ p P i = σ i := by
  unfold pcw
  rw [tnw_ne (by omega) (by omega), tnw_ne (by omega) (by omega), tnw_ne (by omega) (by omega)]
theorem pcw_pcs {σ : ab_S} {p : Nat} {P : pv} (h : σ p = some (ab_ob 2 [.ref (p + 1), .ref (p + 3), .ref (p + 5)])) : pcs (pcw σ p P) p P := by
  refine ⟨by rw [pcw_ne (by omega)]; exact h, ?_, ?_, ?_⟩
  · unfold pcw
    exact tn_ne (tn_ne tnw_tn (by omega) (by omega) (by omega)) (by omega) (by omega) (by omega)
  · unfold pcw
    exact tn_ne tnw_tn (by omega) (by omega) (by omega)
  · unfold pcw
    exact tnw_tn
/-- what a copy holds: the rows of Q over what P held -/
def pcp (P Q : pv) : pv := (Q.1, Q.2.1, Q.2.2.1, ncp Q.2.2.2.1 P.2.2.2.1 0 0 (Q.1 * 5), ncp Q.2.2.2.2.1 P.2.2.2.2.1 0 0 (Q.2.1 * 3), ncp Q.2.2.2.2.2 P.2.2.2.2.2 0 0 (Q.2.2.1 * 3))
theorem pcp_eqv {P Q : pv} : eqv (pcp P Q) Q := by
  refine ⟨rfl, rfl, rfl, fun j hj => ?_, fun j hj => ?_, fun j hj => ?_⟩
  · have hj : j < 5 * Q.1 := hj
    show ncp Q.2.2.2.1 P.2.2.2.1 0 0 (Q.1 * 5) j = _
    unfold ncp
    rw [if_pos (by omega)]
    rw [Nat.zero_add, Nat.sub_zero]
  · have hj : j < 3 * Q.2.1 := hj
    show ncp Q.2.2.2.2.1 P.2.2.2.2.1 0 0 (Q.2.1 * 3) j = _
    unfold ncp
    rw [if_pos (by omega)]
    rw [Nat.zero_add, Nat.sub_zero]
  · have hj : j < 3 * Q.2.2.1 := hj
    show ncp Q.2.2.2.2.2 P.2.2.2.2.2 0 0 (Q.2.2.1 * 3) j = _
    unfold ncp
    rw [if_pos (by omega)]
    rw [Nat.zero_add, Nat.sub_zero]
theorem sp_pcopy {g : ab_G} {σ : ab_S} {p q : Nat} {P Q : pv} (h : pcs σ p P) (k : pcs σ q Q) (hq : pfit Q) (hd : p + 7 ≤ q ∨ q + 7 ≤ p) : ab_Cl 51 [.ref p, .ref q] (g, σ) = some (.inl none, (g, pcw σ p (pcp P Q))) := by
  obtain ⟨h0, h1, h2, h3⟩ := h
  obtain ⟨k0, k1, k2, k3⟩ := k
  obtain ⟨q1, q2, q3⟩ := hq
  have c1 := tp_copy (g := g) h1 k1 (by omega) (by omega) q1 (by omega) (by omega) (by omega)
  have c2 := tp_copy (g := g) (σ := tnw σ (p + 1) 24 5 Q.1 (ncp Q.2.2.2.1 P.2.2.2.1 0 0 (Q.1 * 5))) (tn_ne h2 (by omega) (by omega) (by omega)) (tn_ne k2 (by omega) (by omega) (by omega)) (by omega) (by omega) q2 (by omega) (by omega) (by omega)
  have c3 := tp_copy (g := g) (σ := tnw (tnw σ (p + 1) 24 5 Q.1 (ncp Q.2.2.2.1 P.2.2.2.1 0 0 (Q.1 * 5))) (p + 3) 11 3 Q.2.1 (ncp Q.2.2.2.2.1 P.2.2.2.2.1 0 0 (Q.2.1 * 3))) (tn_ne (tn_ne h3 (by omega) (by omega) (by omega)) (by omega) (by omega) (by omega)) (tn_ne (tn_ne k3 (by omega) (by omega) (by omega)) (by omega) (by omega) (by omega)) (by omega) (by omega) q3 (by omega) (by omega) (by omega)
  have a1 := tn_hd h1
  have a2 := tn_hd h2
  have a3 := tn_hd h3
  have b1 := tn_hd k1
  have b2 := tn_hd k2
  have b3 := tn_hd k3
  unfold ab_Cl; simp (disch := first | (simp -implicitDefEqProofs (disch := omega) only [*, b_isI, b_isR, b_isL, b_isD, b_gv, b_gi, b_nn, b_l1, b_l2, b_e0, b_ei, b_er, b_el, b_ed, b_w80, b_w8_0, b_w8_1, b_w8_2, b_w8_3, b_w8_4, b_w8_5, b_w8_6, b_w8_7, b_w8_8, b_w8_9, b_w8_10, b_w8_11, b_w8_12, b_w8_13, b_w8_14, b_w8_15, b_w8_16, b_w8_17, b_w8_18, b_w8_19, b_w8_20, b_w8_21, b_w8_22, b_w8_23, b_w8_24, b_w8_25, b_w8_26, b_w8_27, b_w8_28, b_w8_29, b_w8_30, b_w8_31, b_w8_32, b_w8_33, b_w8_34, b_w8_35, b_w8_36, b_w8_37, b_w8_38, b_w8_39, b_w8_40, b_w8_41, b_w8_42, b_w8_43, b_w8_44, b_w8_45, b_w8_46, b_w8_47, b_w8_48, b_w8_49, b_w8_50, b_w8_51, b_w8_52, b_w8_53, b_w8_54, b_w8_55, b_w8_56, b_w8_57, b_w8_58, b_w8_59, b_w8_60, b_w8_61, b_w8_62, b_w8_63, b_w8_64, b_w8_65, b_w8_66, b_w8_67, b_w8_68, b_w8_69, b_w8_70, b_w8_71, b_w8_72, b_w8_73, b_w8_74, b_w8_75, b_w8_76, b_w8_77, b_w8_78, b_w8_79, b_w8_80, b_w8_81, b_w8_82, b_w8_83, b_w8_84, b_w8_85, b_w8_86, b_w8_87, b_w8_88, b_w8_89, b_w8_90, b_w8_91, b_w8_92, b_w8_93, b_O0, b_F0_0, b_V0_0, b_F0_1, b_V0_1, b_F0_2, b_V0_2, b_F0_3, b_V0_3, b_F0_4, b_V0_4, b_F0_5, b_V0_5, b_F0_6, b_V0_6, b_F0_7, b_V0_7, b_F0_8, b_V0_8, b_F0_9, b_V0_9, b_O1, b_F1_0, b_V1_0, b_F1_1, b_V1_1, b_F1_2, b_V1_2, b_F1_3, b_V1_3, b_F1_4, b_V1_4, b_F1_5, b_V1_5, b_F1_6, b_V1_6, b_F1_7, b_V1_7, b_O2, b_F2_0, b_V2_0, b_F2_1, b_V2_1, b_F2_2, b_V2_2, b_O3, b_F3_0, b_V3_0, b_F3_1, b_V3_1, b_F3_2, b_V3_2, b_F3_3, b_V3_3, b_O4, b_F4_0, b_V4_0, b_F4_1, b_V4_1, b_F4_2, b_V4_2, b_F4_3, b_V4_3, b_F4_4, b_V4_4, b_F4_5, b_V4_5, b_F4_6, b_V4_6, b_F4_7, b_V4_7, b_F4_8, b_V4_8, b_F4_9, b_V4_9, b_F4_10, b_V4_10, b_O5, b_F5_0, b_V5_0, b_F5_1, b_V5_1, b_O6, b_F6_0, b_V6_0, b_F6_1, b_V6_1, b_F6_2, b_V6_2, b_F6_3, b_V6_3, b_F6_4, b_V6_4, b_inI, b_inJ, b_aI, b_aJ, b_inW, b_sI, b_inL, b_aL, b_sL, b_aQ, b_sQ, b_isA, b_isA2, b_isA3, b_ln, b_sC, b_us, b_fit0, b_fit1, reduceIte, Nat.reduceAdd, Nat.reduceEqDiff, Nat.succ_ne_self, Nat.one_ne_zero, Nat.zero_ne_one, Nat.zero_add, rv_57, tnw_ne, b_un]; done) | omega | (simp -implicitDefEqProofs (disch := omega) only [*, b_isI, b_isR, b_isL, b_isD, b_gv, b_gi, b_nn, b_l1, b_l2, b_e0, b_ei, b_er, b_el, b_ed, b_w80, b_w8_0, b_w8_1, b_w8_2, b_w8_3, b_w8_4, b_w8_5, b_w8_6, b_w8_7, b_w8_8, b_w8_9, b_w8_10, b_w8_11, b_w8_12, b_w8_13, b_w8_14, b_w8_15, b_w8_16, b_w8_17, b_w8_18, b_w8_19, b_w8_20, b_w8_21, b_w8_22, b_w8_23, b_w8_24, b_w8_25, b_w8_26, b_w8_27, b_w8_28, b_w8_29, b_w8_30, b_w8_31, b_w8_32, b_w8_33, b_w8_34, b_w8_35, b_w8_36, b_w8_37, b_w8_38, b_w8_39, b_w8_40, b_w8_41, b_w8_42, b_w8_43, b_w8_44, b_w8_45, b_w8_46, b_w8_47, b_w8_48, b_w8_49, b_w8_50, b_w8_51, b_w8_52, b_w8_53, b_w8_54, b_w8_55, b_w8_56, b_w8_57, b_w8_58, b_w8_59, b_w8_60, b_w8_61, b_w8_62, b_w8_63, b_w8_64, b_w8_65, b_w8_66, b_w8_67, b_w8_68, b_w8_69, b_w8_70, b_w8_71, b_w8_72, b_w8_73, b_w8_74, b_w8_75, b_w8_76, b_w8_77, b_w8_78, b_w8_79, b_w8_80, b_w8_81, b_w8_82, b_w8_83, b_w8_84, b_w8_85, b_w8_86, b_w8_87, b_w8_88, b_w8_89, b_w8_90, b_w8_91, b_w8_92, b_w8_93, b_O0, b_F0_0, b_V0_0, b_F0_1, b_V0_1, b_F0_2, b_V0_2, b_F0_3, b_V0_3, b_F0_4, b_V0_4, b_F0_5, b_V0_5, b_F0_6, b_V0_6, b_F0_7, b_V0_7, b_F0_8, b_V0_8, b_F0_9, b_V0_9, b_O1, b_F1_0, b_V1_0, b_F1_1, b_V1_1, b_F1_2, b_V1_2, b_F1_3, b_V1_3, b_F1_4, b_V1_4, b_F1_5, b_V1_5, b_F1_6, b_V1_6, b_F1_7, b_V1_7, b_O2, b_F2_0, b_V2_0, b_F2_1, b_V2_1, b_F2_2, b_V2_2, b_O3, b_F3_0, b_V3_0, b_F3_1, b_V3_1, b_F3_2, b_V3_2, b_F3_3, b_V3_3, b_O4, b_F4_0, b_V4_0, b_F4_1, b_V4_1, b_F4_2, b_V4_2, b_F4_3, b_V4_3, b_F4_4, b_V4_4, b_F4_5, b_V4_5, b_F4_6, b_V4_6, b_F4_7, b_V4_7, b_F4_8, b_V4_8, b_F4_9, b_V4_9, b_F4_10, b_V4_10, b_O5, b_F5_0, b_V5_0, b_F5_1, b_V5_1, b_O6, b_F6_0, b_V6_0, b_F6_1, b_V6_1, b_F6_2, b_V6_2, b_F6_3, b_V6_3, b_F6_4, b_V6_4, b_inI, b_inJ, b_aI, b_aJ, b_inW, b_sI, b_inL, b_aL, b_sL, b_aQ, b_sQ, b_isA, b_isA2, b_isA3, b_ln, b_sC, b_us, b_fit0, b_fit1, reduceIte, Nat.reduceAdd, Nat.reduceEqDiff, Nat.succ_ne_self, Nat.one_ne_zero, Nat.zero_ne_one, Nat.zero_add, rv_57, tnw_ne, b_un]; refine b_inb ?_ ?_ <;> omega) | fail) only [e_51_0, e_51_1, e_51_4, e_51_5, e_51_8, e_51_11, e_51_12, e_51_15, e_51_16, e_51_19, e_51_22, e_51_23, e_51_26, e_51_27, e_51_30, e_51_33, rv_57, b_isI, b_isR, b_isL, b_isD, b_gv, b_gi, b_nn, b_l1, b_l2, b_e0, b_ei, b_er, b_el, b_ed, b_w80, b_w8_0, b_w8_1, b_w8_2, b_w8_3, b_w8_4, b_w8_5, b_w8_6, b_w8_7, b_w8_8, b_w8_9, b_w8_10, b_w8_11, b_w8_12, b_w8_13, b_w8_14, b_w8_15, b_w8_16, b_w8_17, b_w8_18, b_w8_19, b_w8_20, b_w8_21, b_w8_22, b_w8_23, b_w8_24, b_w8_25, b_w8_26, b_w8_27, b_w8_28, b_w8_29, b_w8_30, b_w8_31, b_w8_32, b_w8_33, b_w8_34, b_w8_35, b_w8_36, b_w8_37, b_w8_38, b_w8_39, b_w8_40, b_w8_41, b_w8_42, b_w8_43, b_w8_44, b_w8_45, b_w8_46, b_w8_47, b_w8_48, b_w8_49, b_w8_50, b_w8_51, b_w8_52, b_w8_53, b_w8_54, b_w8_55, b_w8_56, b_w8_57, b_w8_58, b_w8_59, b_w8_60, b_w8_61, b_w8_62, b_w8_63, b_w8_64, b_w8_65, b_w8_66, b_w8_67, b_w8_68, b_w8_69, b_w8_70, b_w8_71, b_w8_72, b_w8_73, b_w8_74, b_w8_75, b_w8_76, b_w8_77, b_w8_78, b_w8_79, b_w8_80, b_w8_81, b_w8_82, b_w8_83, b_w8_84, b_w8_85, b_w8_86, b_w8_87, b_w8_88, b_w8_89, b_w8_90, b_w8_91, b_w8_92, b_w8_93, b_O0, b_F0_0, b_V0_0, b_S0_0, b_F0_1, b_V0_1, b_S0_1, b_F0_2, b_V0_2, b_S0_2, b_F0_3, b_V0_3, b_S0_3, b_F0_4, b_V0_4, b_S0_4, b_F0_5, b_V0_5, b_S0_5, b_F0_6, b_V0_6, b_S0_6, b_F0_7, b_V0_7, b_S0_7, b_F0_8, b_V0_8, b_S0_8, b_F0_9, b_V0_9, b_S0_9, b_O1, b_F1_0, b_V1_0, b_S1_0, b_F1_1, b_V1_1, b_S1_1, b_F1_2, b_V1_2, b_S1_2, b_F1_3, b_V1_3, b_S1_3, b_F1_4, b_V1_4, b_S1_4, b_F1_5, b_V1_5, b_S1_5, b_F1_6, b_V1_6, b_S1_6, b_F1_7, b_V1_7, b_S1_7, b_O2, b_F2_0, b_V2_0, b_S2_0, b_F2_1, b_V2_1, b_S2_1, b_F2_2, b_V2_2, b_S2_2, b_O3, b_F3_0, b_V3_0, b_S3_0, b_F3_1, b_V3_1, b_S3_1, b_F3_2, b_V3_2, b_S3_2, b_F3_3, b_V3_3, b_S3_3, b_O4, b_F4_0, b_V4_0, b_S4_0, b_F4_1, b_V4_1, b_S4_1, b_F4_2, b_V4_2, b_S4_2, b_F4_3, b_V4_3, b_S4_3, b_F4_4, b_V4_4, b_S4_4, b_F4_5, b_V4_5, b_S4_5, b_F4_6, b_V4_6, b_S4_6, b_F4_7, b_V4_7, b_S4_7, b_F4_8, b_V4_8, b_S4_8, b_F4_9, b_V4_9, b_S4_9, b_F4_10, b_V4_10, b_S4_10, b_O5, b_F5_0, b_V5_0, b_S5_0, b_F5_1, b_V5_1, b_S5_1, b_O6, b_F6_0, b_V6_0, b_S6_0, b_F6_1, b_V6_1, b_S6_1, b_F6_2, b_V6_2, b_S6_2, b_F6_3, b_V6_3, b_S6_3, b_F6_4, b_V6_4, b_S6_4, b_inI, b_inJ, b_aI, b_aJ, b_inW, b_sI, b_inL, b_aL, b_sL, b_isA, b_isA2, b_isA3, b_ln, b_sC, ab_aft_v, ab_aft_r, b_us, reduceIte, Nat.reduceAdd, Nat.reduceEqDiff, Nat.reduceMul, ite_true, ite_false, Nat.succ_ne_self, Nat.one_ne_zero, Nat.zero_ne_one, Nat.zero_add, Nat.add_zero, Nat.add_one_sub_one, List.cons_append, List.nil_append, Option.toList_some, Option.toList_none, b_un, b_leT, b_leF, b_ltT, b_ltF, b_eqT, b_eqF, b_eq0T, b_eq0F, b_le0T, b_le0F, b_gt0T, b_gt0F, l_leT, l_leF, l_ltT, l_ltF, l_eqT, l_eqF, lg_cl, lg_cle, lg_cge, lg_cgt, lg_ce, b_il, b_li, lN_mul, lN_add, b_cl, nI_add, pk_mul, b_neg0, b_nng0, tnw_ne, h0, k0, a1, a2, a3, b1, b2, b3, c1, c2, c3]
  rfl
def pzero (P : pv) : pv := (0, 0, 0, P.2.2.2)
