/-! ===== the law's two objects ===== -/
def z0 : Nat → Nat := fun _ => 0
section
variable {σ : ab_S}
theorem im_2 : ab_up (ab_up (ab_nq 2) 0 (some 94)) 1 (some 101) = fun j => some (94 + 7 * j) := by
  funext j
  show (if j = 1 then some 101 else if j = 0 then some 94 else if j < 2 then none else some (94 + 7 * j)) = some (94 + 7 * j)
  by_cases h1 : j = 1
  · rw [if_pos h1, h1]
  · rw [if_neg h1]
    by_cases h0 : j = 0
    · rw [if_pos h0, h0]
    · rw [if_neg h0, if_neg (by omega)]
theorem mk_0 (h1 : σ 1 = some (ab_ra 5 ab_least)) (h2 : σ 2 = some (ab_ra 5 ab_most)) (hp : σ 3 = some (ab_ob 0 [.null, .null, .null, .null, .null, .int 0, .null, .int 0, .null, .null])) : ∃ σ', ab_Cl 0 [.ref 3] ((true, 4, 1, 10), σ) = some (.inl none, ((true, 108, 105, 5073), σ')) ∧ cw σ' pv0 0 (fun _ => pv0) pv0 pv0 0 0 z0 (pbO 0 0 0 0 0 0 0 0 0 0 0) ∧ ∀ i, i < 3 ∨ 108 ≤ i → σ' i = σ i := by
  obtain ⟨s1, c1, d1, e1, f1⟩ := mk_47 (s := 4) (σ := ab_up σ 4 (some (ab_ob 1 [.null, .null, .null, .null, .null, .null, .int 0, .long 0]))) (a := 2) (b := 18) b_us
  simp only [Nat.reduceAdd] at c1 e1 f1
  have k1 : s1 3 = some (ab_ob 0 [.null, .null, .null, .null, .null, .int 0, .null, .int 0, .null, .null]) := by
    rw [f1 3 (by omega), b_un (by omega)]
    exact hp
  have k4 : s1 4 = some (.inr (1, [.ref 5, .ref 12, .ref 13, .ref 14, .ref 15, .ref 16, .int (nI 0), .long (lN 0)])) := by
    rw [← d1, scw_0]
  obtain ⟨s2, c2, d2, f2⟩ := mk_94 (h := 18) (σ := ab_up (ab_up (ab_up s1 17 (some (ab_ob 4 [.int 0, .int 0, .int 0, .int 0, .int 0, .int 0, .int 0, .long 0, .int 0, .int 0, .int 0]))) 3 (some (ab_ob 0 [.ref 4, .ref 5, .ref 17, .null, .null, .int 0, .null, .int 0, .null, .null]))) 18 (some (ab_ob 5 [.null, .int 0]))) (a := 16) (b := 1411) b_us
  simp only [Nat.reduceAdd] at c2 f2
  have k2 : s2 3 = some (ab_ob 0 [.ref 4, .ref 5, .ref 17, .null, .null, .int 0, .null, .int 0, .null, .null]) := by
    rw [f2 3 (by omega), b_un (by omega), b_us]
  obtain ⟨s3, c3, d3, e3, f3⟩ := mk_98 (r := 78) (σ := ab_up (ab_up (ab_up (ab_up s2 76 (some (ab_qa 2 (ab_nq 2)))) 77 (some (ab_ia 60 (fun _ => 0)))) 3 (some (ab_ob 0 [.ref 4, .ref 5, .ref 17, .ref 18, .ref 76, .int 0, .ref 77, .int 0, .null, .null]))) 78 (some (ab_ob 6 [.null, .int 0, .int 0, .int 0, .int 0]))) (a := 76) (b := 3118) b_us
  simp only [Nat.reduceAdd] at c3 f3
  have k3 : s3 3 = some (ab_ob 0 [.ref 4, .ref 5, .ref 17, .ref 18, .ref 76, .int 0, .ref 77, .int 0, .null, .null]) := by
    rw [f3 3 (by omega), b_un (by omega), b_us]
  obtain ⟨s4, c4, d4, e4, f4⟩ := mk_47 (s := 81) (σ := ab_up (ab_up s3 3 (some (ab_ob 0 [.ref 4, .ref 5, .ref 17, .ref 18, .ref 76, .int 0, .ref 77, .int 0, .ref 78, .null]))) 81 (some (ab_ob 1 [.null, .null, .null, .null, .null, .null, .int 0, .long 0]))) (a := 79) (b := 3285) b_us
  simp only [Nat.reduceAdd] at c4 e4 f4
  have k5 : s4 3 = some (ab_ob 0 [.ref 4, .ref 5, .ref 17, .ref 18, .ref 76, .int 0, .ref 77, .int 0, .ref 78, .null]) := by
    rw [f4 3 (by omega), b_un (by omega), b_us]
  have k6 : s4 76 = some (ab_qa 2 (ab_nq 2)) := by
    rw [f4 76 (by omega), b_un (by omega), b_un (by omega), f3 76 (by omega), b_un (by omega), b_un (by omega), b_un (by omega), b_us]
  obtain ⟨s5, c5, d5, f5⟩ := mk_71 (p := 94) (σ := ab_up (ab_up s4 3 (some (ab_ob 0 [.ref 4, .ref 5, .ref 17, .ref 18, .ref 76, .int 0, .ref 77, .int 0, .ref 78, .ref 81]))) 94 (some (ab_ob 2 [.null, .null, .null]))) (a := 92) (b := 4668) b_us
  simp only [Nat.reduceAdd] at c5 f5
  have k7 : s5 3 = some (ab_ob 0 [.ref 4, .ref 5, .ref 17, .ref 18, .ref 76, .int 0, .ref 77, .int 0, .ref 78, .ref 81]) := by
    rw [f5 3 (by omega), b_un (by omega), b_us]
  have k8 : s5 76 = some (ab_qa 2 (ab_nq 2)) := by
    rw [f5 76 (by omega), b_un (by omega), b_un (by omega)]
    exact k6
  have k9 : ab_isO 2 (s5 94) = true := pcs_O d5
  obtain ⟨s6, c6, d6, f6⟩ := mk_71 (p := 101) (σ := ab_up (ab_up s5 76 (some (ab_qa 2 (ab_up (ab_nq 2) 0 (some 94))))) 101 (some (ab_ob 2 [.null, .null, .null]))) (a := 99) (b := 4872) b_us
  simp only [Nat.reduceAdd] at c6 f6
  have k10 : s6 3 = some (ab_ob 0 [.ref 4, .ref 5, .ref 17, .ref 18, .ref 76, .int 0, .ref 77, .int 0, .ref 78, .ref 81]) := by
    rw [f6 3 (by omega), b_un (by omega), b_un (by omega)]
    exact k7
  have k11 : s6 76 = some (ab_qa 2 (ab_up (ab_nq 2) 0 (some 94))) := by
    rw [f6 76 (by omega), b_un (by omega), b_us]
  have k12 : ab_isO 2 (s6 101) = true := pcs_O d6
  refine ⟨ab_up s6 76 (some (ab_qa 2 (fun j => some (94 + 7 * j)))), ?_, ?_, ?_⟩
  · rw [← im_2]
    have i2 : ab_inb (nI 0) 2 = true := b_inb (by omega) (by omega)
    have i3 : ab_inb (nI 1) 2 = true := b_inb (by omega) (by omega)
    have m81 {s : Nat} {g : ab_G} {σ : ab_S} := mk_81 (s := s) (g := g) (σ := σ)
    clear d1 e1 f1 d2 f2 d3 e3 f3 d4 e4 f4 d5 f5 d6 f6 h1 h2
    unfold ab_Cl; simp (disch := first | (simp -implicitDefEqProofs (disch := omega) only [*, b_isI, b_isR, b_isL, b_isD, b_gv, b_gi, b_nn, b_l1, b_l2, b_e0, b_ei, b_er, b_el, b_ed, b_w80, b_w8_0, b_w8_1, b_w8_2, b_w8_3, b_w8_4, b_w8_5, b_w8_6, b_w8_7, b_w8_8, b_w8_9, b_w8_10, b_w8_11, b_w8_12, b_w8_13, b_w8_14, b_w8_15, b_w8_16, b_w8_17, b_w8_18, b_w8_19, b_w8_20, b_w8_21, b_w8_22, b_w8_23, b_w8_24, b_w8_25, b_w8_26, b_w8_27, b_w8_28, b_w8_29, b_w8_30, b_w8_31, b_w8_32, b_w8_33, b_w8_34, b_w8_35, b_w8_36, b_w8_37, b_w8_38, b_w8_39, b_w8_40, b_w8_41, b_w8_42, b_w8_43, b_w8_44, b_w8_45, b_w8_46, b_w8_47, b_w8_48, b_w8_49, b_w8_50, b_w8_51, b_w8_52, b_w8_53, b_w8_54, b_w8_55, b_w8_56, b_w8_57, b_w8_58, b_w8_59, b_w8_60, b_w8_61, b_w8_62, b_w8_63, b_w8_64, b_w8_65, b_w8_66, b_w8_67, b_w8_68, b_w8_69, b_w8_70, b_w8_71, b_w8_72, b_w8_73, b_w8_74, b_w8_75, b_w8_76, b_w8_77, b_w8_78, b_w8_79, b_w8_80, b_w8_81, b_w8_82, b_w8_83, b_w8_84, b_w8_85, b_w8_86, b_w8_87, b_w8_88, b_w8_89, b_w8_90, b_w8_91, b_w8_92, b_w8_93, b_O0, b_F0_0, b_V0_0, b_F0_1, b_V0_1, b_F0_2, b_V0_2, b_F0_3, b_V0_3, b_F0_4, b_V0_4, b_F0_5, b_V0_5, b_F0_6, b_V0_6, b_F0_7, b_V0_7, b_F0_8, b_V0_8, b_F0_9, b_V0_9, b_O1, b_F1_0, b_V1_0, b_F1_1, b_V1_1, b_F1_2, b_V1_2, b_F1_3, b_V1_3, b_F1_4, b_V1_4, b_F1_5, b_V1_5, b_F1_6, b_V1_6, b_F1_7, b_V1_7, b_O2, b_F2_0, b_V2_0, b_F2_1, b_V2_1, b_F2_2, b_V2_2, b_O3, b_F3_0, b_V3_0, b_F3_1, b_V3_1, b_F3_2, b_V3_2, b_F3_3, b_V3_3, b_O4, b_F4_0, b_V4_0, b_F4_1, b_V4_1, b_F4_2, b_V4_2, b_F4_3, b_V4_3, b_F4_4, b_V4_4, b_F4_5, b_V4_5, b_F4_6, b_V4_6, b_F4_7, b_V4_7, b_F4_8, b_V4_8, b_F4_9, b_V4_9, b_F4_10, b_V4_10, b_O5, b_F5_0, b_V5_0, b_F5_1, b_V5_1, b_O6, b_F6_0, b_V6_0, b_F6_1, b_V6_1, b_F6_2, b_V6_2, b_F6_3, b_V6_3, b_F6_4, b_V6_4, b_inI, b_inJ, b_aI, b_aJ, b_inW, b_sI, b_inL, b_aL, b_sL, b_aQ, b_sQ, b_isA, b_isA2, b_isA3, b_ln, b_sC, b_us, b_fit0, b_fit1, reduceIte, Nat.reduceAdd, Nat.reduceEqDiff, Nat.succ_ne_self, Nat.one_ne_zero, Nat.zero_ne_one, Nat.zero_add, rv_26, rv_50, rv_58, rv_59, rv_62, tnw_ne, pcw_ne, b_inQ2, b_inP2, b_aQ2, b_sQ2, scw_0, scw_8, scw_9, scw_10, scw_11, scw_12, scw_ne, tnw_at, rdw_r, rdw_t, rdw_ne, nk_ok, mk_eq, up_3, b_un]; done) | omega | (simp -implicitDefEqProofs (disch := omega) only [*, b_isI, b_isR, b_isL, b_isD, b_gv, b_gi, b_nn, b_l1, b_l2, b_e0, b_ei, b_er, b_el, b_ed, b_w80, b_w8_0, b_w8_1, b_w8_2, b_w8_3, b_w8_4, b_w8_5, b_w8_6, b_w8_7, b_w8_8, b_w8_9, b_w8_10, b_w8_11, b_w8_12, b_w8_13, b_w8_14, b_w8_15, b_w8_16, b_w8_17, b_w8_18, b_w8_19, b_w8_20, b_w8_21, b_w8_22, b_w8_23, b_w8_24, b_w8_25, b_w8_26, b_w8_27, b_w8_28, b_w8_29, b_w8_30, b_w8_31, b_w8_32, b_w8_33, b_w8_34, b_w8_35, b_w8_36, b_w8_37, b_w8_38, b_w8_39, b_w8_40, b_w8_41, b_w8_42, b_w8_43, b_w8_44, b_w8_45, b_w8_46, b_w8_47, b_w8_48, b_w8_49, b_w8_50, b_w8_51, b_w8_52, b_w8_53, b_w8_54, b_w8_55, b_w8_56, b_w8_57, b_w8_58, b_w8_59, b_w8_60, b_w8_61, b_w8_62, b_w8_63, b_w8_64, b_w8_65, b_w8_66, b_w8_67, b_w8_68, b_w8_69, b_w8_70, b_w8_71, b_w8_72, b_w8_73, b_w8_74, b_w8_75, b_w8_76, b_w8_77, b_w8_78, b_w8_79, b_w8_80, b_w8_81, b_w8_82, b_w8_83, b_w8_84, b_w8_85, b_w8_86, b_w8_87, b_w8_88, b_w8_89, b_w8_90, b_w8_91, b_w8_92, b_w8_93, b_O0, b_F0_0, b_V0_0, b_F0_1, b_V0_1, b_F0_2, b_V0_2, b_F0_3, b_V0_3, b_F0_4, b_V0_4, b_F0_5, b_V0_5, b_F0_6, b_V0_6, b_F0_7, b_V0_7, b_F0_8, b_V0_8, b_F0_9, b_V0_9, b_O1, b_F1_0, b_V1_0, b_F1_1, b_V1_1, b_F1_2, b_V1_2, b_F1_3, b_V1_3, b_F1_4, b_V1_4, b_F1_5, b_V1_5, b_F1_6, b_V1_6, b_F1_7, b_V1_7, b_O2, b_F2_0, b_V2_0, b_F2_1, b_V2_1, b_F2_2, b_V2_2, b_O3, b_F3_0, b_V3_0, b_F3_1, b_V3_1, b_F3_2, b_V3_2, b_F3_3, b_V3_3, b_O4, b_F4_0, b_V4_0, b_F4_1, b_V4_1, b_F4_2, b_V4_2, b_F4_3, b_V4_3, b_F4_4, b_V4_4, b_F4_5, b_V4_5, b_F4_6, b_V4_6, b_F4_7, b_V4_7, b_F4_8, b_V4_8, b_F4_9, b_V4_9, b_F4_10, b_V4_10, b_O5, b_F5_0, b_V5_0, b_F5_1, b_V5_1, b_O6, b_F6_0, b_V6_0, b_F6_1, b_V6_1, b_F6_2, b_V6_2, b_F6_3, b_V6_3, b_F6_4, b_V6_4, b_inI, b_inJ, b_aI, b_aJ, b_inW, b_sI, b_inL, b_aL, b_sL, b_aQ, b_sQ, b_isA, b_isA2, b_isA3, b_ln, b_sC, b_us, b_fit0, b_fit1, reduceIte, Nat.reduceAdd, Nat.reduceEqDiff, Nat.succ_ne_self, Nat.one_ne_zero, Nat.zero_ne_one, Nat.zero_add, rv_26, rv_50, rv_58, rv_59, rv_62, tnw_ne, pcw_ne, b_inQ2, b_inP2, b_aQ2, b_sQ2, scw_0, scw_8, scw_9, scw_10, scw_11, scw_12, scw_ne, tnw_at, rdw_r, rdw_t, rdw_ne, nk_ok, mk_eq, up_3, b_un]; refine b_inb ?_ ?_ <;> omega) | fail) only [e_0_0, e_0_1, e_0_4, e_0_5, e_0_8, e_0_9, e_0_12, e_0_15, e_0_16, e_0_17, e_0_20, e_0_23, e_0_26, e_0_27, e_0_30, e_0_31, e_0_34, e_0_37, e_0_38, e_0_41, e_0_42, e_0_45, e_0_48, e_0_49, e_0_50, e_0_53, e_0_56, e_0_57, e_0_59, e_0_61, e_0_64, e_0_65, e_0_68, e_0_69, e_0_72, e_0_75, e_0_76, e_0_79, e_0_80, e_0_83, e_0_86, e_0_87, e_0_88, e_0_89, e_0_90, e_0_93, e_0_94, e_0_97, e_0_98, e_0_101, e_0_102, e_0_105, e_0_106, e_0_109, e_0_110, e_0_113, e_0_116, rv_26, rv_50, rv_58, rv_59, rv_62, b_isI, b_isR, b_isL, b_isD, b_gv, b_gi, b_nn, b_l1, b_l2, b_e0, b_ei, b_er, b_el, b_ed, b_w80, b_w8_0, b_w8_1, b_w8_2, b_w8_3, b_w8_4, b_w8_5, b_w8_6, b_w8_7, b_w8_8, b_w8_9, b_w8_10, b_w8_11, b_w8_12, b_w8_13, b_w8_14, b_w8_15, b_w8_16, b_w8_17, b_w8_18, b_w8_19, b_w8_20, b_w8_21, b_w8_22, b_w8_23, b_w8_24, b_w8_25, b_w8_26, b_w8_27, b_w8_28, b_w8_29, b_w8_30, b_w8_31, b_w8_32, b_w8_33, b_w8_34, b_w8_35, b_w8_36, b_w8_37, b_w8_38, b_w8_39, b_w8_40, b_w8_41, b_w8_42, b_w8_43, b_w8_44, b_w8_45, b_w8_46, b_w8_47, b_w8_48, b_w8_49, b_w8_50, b_w8_51, b_w8_52, b_w8_53, b_w8_54, b_w8_55, b_w8_56, b_w8_57, b_w8_58, b_w8_59, b_w8_60, b_w8_61, b_w8_62, b_w8_63, b_w8_64, b_w8_65, b_w8_66, b_w8_67, b_w8_68, b_w8_69, b_w8_70, b_w8_71, b_w8_72, b_w8_73, b_w8_74, b_w8_75, b_w8_76, b_w8_77, b_w8_78, b_w8_79, b_w8_80, b_w8_81, b_w8_82, b_w8_83, b_w8_84, b_w8_85, b_w8_86, b_w8_87, b_w8_88, b_w8_89, b_w8_90, b_w8_91, b_w8_92, b_w8_93, b_O0, b_F0_0, b_V0_0, b_S0_0, b_F0_1, b_V0_1, b_S0_1, b_F0_2, b_V0_2, b_S0_2, b_F0_3, b_V0_3, b_S0_3, b_F0_4, b_V0_4, b_S0_4, b_F0_5, b_V0_5, b_S0_5, b_F0_6, b_V0_6, b_S0_6, b_F0_7, b_V0_7, b_S0_7, b_F0_8, b_V0_8, b_S0_8, b_F0_9, b_V0_9, b_S0_9, b_O1, b_F1_0, b_V1_0, b_S1_0, b_F1_1, b_V1_1, b_S1_1, b_F1_2, b_V1_2, b_S1_2, b_F1_3, b_V1_3, b_S1_3, b_F1_4, b_V1_4, b_S1_4, b_F1_5, b_V1_5, b_S1_5, b_F1_6, b_V1_6, b_S1_6, b_F1_7, b_V1_7, b_S1_7, b_O2, b_F2_0, b_V2_0, b_S2_0, b_F2_1, b_V2_1, b_S2_1, b_F2_2, b_V2_2, b_S2_2, b_O3, b_F3_0, b_V3_0, b_S3_0, b_F3_1, b_V3_1, b_S3_1, b_F3_2, b_V3_2, b_S3_2, b_F3_3, b_V3_3, b_S3_3, b_O4, b_F4_0, b_V4_0, b_S4_0, b_F4_1, b_V4_1, b_S4_1, b_F4_2, b_V4_2, b_S4_2, b_F4_3, b_V4_3, b_S4_3, b_F4_4, b_V4_4, b_S4_4, b_F4_5, b_V4_5, b_S4_5, b_F4_6, b_V4_6, b_S4_6, b_F4_7, b_V4_7, b_S4_7, b_F4_8, b_V4_8, b_S4_8, b_F4_9, b_V4_9, b_S4_9, b_F4_10, b_V4_10, b_S4_10, b_O5, b_F5_0, b_V5_0, b_S5_0, b_F5_1, b_V5_1, b_S5_1, b_O6, b_F6_0, b_V6_0, b_S6_0, b_F6_1, b_V6_1, b_S6_1, b_F6_2, b_V6_2, b_S6_2, b_F6_3, b_V6_3, b_S6_3, b_F6_4, b_V6_4, b_S6_4, b_inI, b_inJ, b_aI, b_aJ, b_inW, b_sI, b_inL, b_aL, b_sL, b_isA, b_isA2, b_isA3, b_ln, b_sC, ab_aft_v, ab_aft_r, b_us, reduceIte, Nat.reduceAdd, Nat.reduceEqDiff, Nat.reduceMul, ite_true, ite_false, Nat.succ_ne_self, Nat.one_ne_zero, Nat.zero_ne_one, Nat.zero_add, Nat.add_zero, Nat.add_one_sub_one, List.cons_append, List.nil_append, Option.toList_some, Option.toList_none, b_un, b_leT, b_leF, b_ltT, b_ltF, b_eqT, b_eqF, b_eq0T, b_eq0F, b_le0T, b_le0F, b_gt0T, b_gt0F, l_leT, l_leF, l_ltT, l_ltF, l_eqT, l_eqF, lg_cl, lg_cle, lg_cge, lg_cgt, lg_ce, b_il, b_li, lN_mul, lN_add, b_cl, nI_add, pk_mul, b_neg0, b_nng0, tnw_ne, pcw_ne, b_inQ2, b_inP2, b_aQ2, b_sQ2, scw_0, scw_8, scw_9, scw_10, scw_11, scw_12, scw_ne, tnw_at, rdw_r, rdw_t, rdw_ne, nk_ok, mk_eq, up_3, hp, c1, k1, k4, m81, c2, k2, c3, k3, c4, k5, k6, c5, k7, k8, c6, k10, k11, nI_add, b_sQ, b_uu, i2, i3]
  · have g5 : ∀ i, i < 101 → i ≠ 76 → s6 i = s5 i := fun i hi hn => by rw [f6 i (by omega), b_un (by omega), b_un (by omega)]
    have g4 : ∀ i, i < 94 → i ≠ 76 → i ≠ 3 → s6 i = s4 i := fun i hi hn h3 => by rw [g5 i (by omega) hn, f5 i (by omega), b_un (by omega), b_un (by omega)]
    have g3 : ∀ i, i < 81 → i ≠ 76 → i ≠ 3 → s6 i = s3 i := fun i hi hn h3 => by rw [g4 i (by omega) hn h3, f4 i (by omega), b_un (by omega), b_un (by omega)]
    have g2 : ∀ i, i < 76 → i ≠ 3 → s6 i = s2 i := fun i hi h3 => by rw [g3 i (by omega) (by omega) h3, f3 i (by omega), b_un (by omega), b_un (by omega), b_un (by omega), b_un (by omega)]
    have g1 : ∀ i, i < 17 → i ≠ 3 → s6 i = s1 i := fun i hi h3 => by rw [g2 i (by omega) h3, f2 i (by omega), b_un (by omega), b_un (by omega), b_un (by omega)]
    have g0 : ∀ i, i < 3 → s6 i = σ i := fun i hi => by rw [g1 i (by omega) (by omega), f1 i (by omega), b_un (by omega)]
    refine ⟨⟨?_, ?_, ?_, ?_, ⟨q94 18, ?_⟩, b_us, ?_, ?_, ?_, ⟨0, 0, 0, 0, 0, fun _ => 0, ?_, ?_⟩, pv0, fun _ => 0, fun _ => 0, fun _ => 0, fun _ => 0, fun _ => 0, 0, 0, ?_, ?_⟩, fun _ => 0, fun _ => 0, fun _ => 0, fun _ => 0, fun _ => 0, ?_, ?_, ?_, ?_⟩
    · rw [b_un (by omega), g0 1 (by omega)]
      exact h1
    · rw [b_un (by omega), g0 2 (by omega)]
      exact h2
    · rw [b_un (by omega), k10]
      rfl
    · rw [b_un (by omega), g2 17 (by omega) (by omega), f2 17 (by omega), b_un (by omega), b_un (by omega), b_us]
      rfl
    · exact hst_of d2 (fun i hi hi2 => by rw [b_un (by omega), g2 i (by omega) (by omega)])
    · exact pcs_of d5 (fun i hi hi2 => by rw [b_un (by omega), g5 i (by omega) (by omega)])
    · exact pcs_of d6 (fun i hi hi2 => by rw [b_un (by omega)])
    · rw [b_un (by omega), g3 77 (by omega) (by omega) (by omega), f3 77 (by omega), b_un (by omega), b_un (by omega), b_us]
      rfl
    · rw [b_un (by omega), g3 78 (by omega) (by omega) (by omega)]
      exact d3
    · exact tn_of e3 (by rw [b_un (by omega), g3 79 (by omega) (by omega) (by omega)]) (by rw [b_un (by omega), g3 80 (by omega) (by omega) (by omega)])
    · exact scw_of d4 (fun i hi hi2 => by rw [b_un (by omega), g4 i (by omega) (by omega) (by omega)])
    · exact pcs_of e4 (fun i hi hi2 => by rw [b_un (by omega), g4 i (by omega) (by omega) (by omega)])
    · exact scw_of d1 (fun i hi hi2 => by rw [b_un (by omega), g1 i (by omega) (by omega)])
    · exact pcs_of e1 (fun i hi hi2 => by rw [b_un (by omega), g1 i (by omega) (by omega)])
    · intro j hj
      exact absurd hj (Nat.not_lt_zero j)
    · intro j hj
      exact absurd hj (Nat.not_lt_zero j)
  · intro i hi
    rw [b_un (by omega), f6 i (by omega), b_un (by omega), b_un (by omega), f5 i (by omega), b_un (by omega), b_un (by omega), f4 i (by omega), b_un (by omega), b_un (by omega), f3 i (by omega), b_un (by omega), b_un (by omega), b_un (by omega), b_un (by omega), f2 i (by omega), b_un (by omega), b_un (by omega), b_un (by omega), f1 i (by omega), b_un (by omega)]
end
