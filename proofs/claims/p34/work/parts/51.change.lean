/-! ===== calls that change the piece ===== -/
theorem s_fb_c {B D : Nat → Nat} {b : Nat} (h : ∀ j, j < 5 * b → B j = D j) : ∀ i, i ≤ b → s_fb B i = s_fb D i
  | 0, _ => rfl
  | i + 1, hi => by
    show s_fb B i + B (5 * i) = s_fb D i + D (5 * i)
    rw [s_fb_c h i (by omega), h (5 * i) (by omega)]
theorem okB_c {B D : Nat → Nat} {b : Nat} (h : ∀ j, j < 5 * b → B j = D j) (k : okB B b) : okB D b := by
  refine ⟨k.1, fun i hi => ?_⟩
  rw [← h (5 * i) (by omega), ← h (5 * i + 1) (by omega), ← h (5 * i + 2) (by omega), ← h (5 * i + 3) (by omega), ← h (5 * i + 4) (by omega)]
  exact k.2 i hi
theorem okM_c {B D : Nat → Nat} {m : Nat} (h : ∀ j, j < 3 * m → B j = D j) (k : okM B m) : okM D m := by
  refine ⟨k.1, fun i hi => ?_, fun i hi => ?_⟩
  · rw [← h (3 * i) (by omega), ← h (3 * i + 1) (by omega), ← h (3 * i + 2) (by omega)]
    exact k.2.1 i hi
  · rw [← h (3 * i) (by omega), ← h (3 * (i + 1)) (by omega)]
    exact k.2.2 i hi
theorem okC_c {B D : Nat → Nat} {c n : Nat} (h : ∀ j, j < 3 * c → B j = D j) (k : okC B c n) : okC D c n := by
  refine ⟨k.1, fun i hi => ?_⟩
  rw [← h (3 * i) (by omega), ← h (3 * i + 1) (by omega), ← h (3 * i + 2) (by omega)]
  exact k.2 i hi
theorem okP_c {P Q : pv} (e : eqv P Q) (h : okP P) : okP Q := by
  obtain ⟨e1, e2, e3, e4, e5, e6⟩ := e
  obtain ⟨h1, h2, h3⟩ := h
  have f := s_fb_c e4 P.1 (Nat.le_refl _)
  have b := okB_c e4 h1
  have m := okM_c e5 h2
  have c := okC_c e6 h3
  rw [f] at c
  unfold okP
  rw [← e1, ← e2, ← e3]
  exact ⟨b, m, c⟩
theorem okP_fit {P : pv} (h : okP P) : pfit P := ⟨h.1.1, h.2.1.1, h.2.2.1⟩
/-- no cue is lost -/
theorem s_flt_all {P : pv} {c' : Nat} {C' : Nat → Nat} (h : okP P) (f : s_flt P c' C') : eqv (P.1, P.2.1, c', P.2.2.2.1, P.2.2.2.2.1, C') P := by
  have e : (cl P.2.2.2.2.2 P.2.2.1).filter (fun x => decide (x.1 < s_fb P.2.2.2.1 P.1)) = cl P.2.2.2.2.2 P.2.2.1 := by
    rw [List.filter_eq_self]
    intro x hx
    unfold cl at hx
    rw [List.mem_map] at hx
    obtain ⟨i, hi, hx⟩ := hx
    rw [List.mem_range] at hi
    rw [← hx]
    exact decide_eq_true (h.2.2.2 i hi).1
  have g := f.2
  rw [e] at g
  obtain ⟨g1, g2⟩ := cl_eq g
  exact ⟨rfl, rfl, g1, fun _ _ => rfl, fun _ _ => rfl, g2⟩
def pbOn (X : Option ab_C) (on : Nat) : Prop := ∃ F c v ch nb nc ck hc hl hq, X = pbO F c v ch nb nc on ck hc hl hq
section
variable {g : ab_G} {σ σ' : ab_S} {P : pv} {n : Nat} {H : Nat → pv} {I J : pv} {kp len : Nat} {a : Nat → Nat} {X : Option ab_C}
theorem sp_np0 (h : cw0 σ P n H I J kp len a X) (hX : pbOn X 0) : ab_Cl 19 [.ref 3] (g, σ) = some (.inl none, (g, σ)) := by
  obtain ⟨h3, -, -, -, -, -, -, h17⟩ := cw0_hd h
  obtain ⟨F, c, v, ch, nb, nc, ck, hc, hl, hq, e⟩ := hX
  rw [e] at h17
  unfold pbO at h17
  unfold ab_Cl; simp (disch := first | (simp -implicitDefEqProofs (disch := omega) only [*, b_isI, b_isR, b_isL, b_isD, b_gv, b_gi, b_nn, b_l1, b_l2, b_e0, b_ei, b_er, b_el, b_ed, b_w80, b_w8_0, b_w8_1, b_w8_2, b_w8_3, b_w8_4, b_w8_5, b_w8_6, b_w8_7, b_w8_8, b_w8_9, b_w8_10, b_w8_11, b_w8_12, b_w8_13, b_w8_14, b_w8_15, b_w8_16, b_w8_17, b_w8_18, b_w8_19, b_w8_20, b_w8_21, b_w8_22, b_w8_23, b_w8_24, b_w8_25, b_w8_26, b_w8_27, b_w8_28, b_w8_29, b_w8_30, b_w8_31, b_w8_32, b_w8_33, b_w8_34, b_w8_35, b_w8_36, b_w8_37, b_w8_38, b_w8_39, b_w8_40, b_w8_41, b_w8_42, b_w8_43, b_w8_44, b_w8_45, b_w8_46, b_w8_47, b_w8_48, b_w8_49, b_w8_50, b_w8_51, b_w8_52, b_w8_53, b_w8_54, b_w8_55, b_w8_56, b_w8_57, b_w8_58, b_w8_59, b_w8_60, b_w8_61, b_w8_62, b_w8_63, b_w8_64, b_w8_65, b_w8_66, b_w8_67, b_w8_68, b_w8_69, b_w8_70, b_w8_71, b_w8_72, b_w8_73, b_w8_74, b_w8_75, b_w8_76, b_w8_77, b_w8_78, b_w8_79, b_w8_80, b_w8_81, b_w8_82, b_w8_83, b_w8_84, b_w8_85, b_w8_86, b_w8_87, b_w8_88, b_w8_89, b_w8_90, b_w8_91, b_w8_92, b_w8_93, b_O0, b_F0_0, b_V0_0, b_F0_1, b_V0_1, b_F0_2, b_V0_2, b_F0_3, b_V0_3, b_F0_4, b_V0_4, b_F0_5, b_V0_5, b_F0_6, b_V0_6, b_F0_7, b_V0_7, b_F0_8, b_V0_8, b_F0_9, b_V0_9, b_O1, b_F1_0, b_V1_0, b_F1_1, b_V1_1, b_F1_2, b_V1_2, b_F1_3, b_V1_3, b_F1_4, b_V1_4, b_F1_5, b_V1_5, b_F1_6, b_V1_6, b_F1_7, b_V1_7, b_O2, b_F2_0, b_V2_0, b_F2_1, b_V2_1, b_F2_2, b_V2_2, b_O3, b_F3_0, b_V3_0, b_F3_1, b_V3_1, b_F3_2, b_V3_2, b_F3_3, b_V3_3, b_O4, b_F4_0, b_V4_0, b_F4_1, b_V4_1, b_F4_2, b_V4_2, b_F4_3, b_V4_3, b_F4_4, b_V4_4, b_F4_5, b_V4_5, b_F4_6, b_V4_6, b_F4_7, b_V4_7, b_F4_8, b_V4_8, b_F4_9, b_V4_9, b_F4_10, b_V4_10, b_O5, b_F5_0, b_V5_0, b_F5_1, b_V5_1, b_O6, b_F6_0, b_V6_0, b_F6_1, b_V6_1, b_F6_2, b_V6_2, b_F6_3, b_V6_3, b_F6_4, b_V6_4, b_inI, b_inJ, b_aI, b_aJ, b_inW, b_sI, b_inL, b_aL, b_sL, b_aQ, b_sQ, b_isA, b_isA2, b_isA3, b_ln, b_sC, b_us, b_fit0, b_fit1, reduceIte, Nat.reduceAdd, Nat.reduceEqDiff, Nat.succ_ne_self, Nat.one_ne_zero, Nat.zero_ne_one, Nat.zero_add, tnw_ne, pcw_ne, b_inQ2, b_inP2, b_aQ2, b_sQ2, scw_0, scw_8, scw_9, scw_10, scw_11, scw_12, scw_ne, tnw_at, rdw_r, rdw_t, rdw_ne, b_un]; done) | omega | (simp -implicitDefEqProofs (disch := omega) only [*, b_isI, b_isR, b_isL, b_isD, b_gv, b_gi, b_nn, b_l1, b_l2, b_e0, b_ei, b_er, b_el, b_ed, b_w80, b_w8_0, b_w8_1, b_w8_2, b_w8_3, b_w8_4, b_w8_5, b_w8_6, b_w8_7, b_w8_8, b_w8_9, b_w8_10, b_w8_11, b_w8_12, b_w8_13, b_w8_14, b_w8_15, b_w8_16, b_w8_17, b_w8_18, b_w8_19, b_w8_20, b_w8_21, b_w8_22, b_w8_23, b_w8_24, b_w8_25, b_w8_26, b_w8_27, b_w8_28, b_w8_29, b_w8_30, b_w8_31, b_w8_32, b_w8_33, b_w8_34, b_w8_35, b_w8_36, b_w8_37, b_w8_38, b_w8_39, b_w8_40, b_w8_41, b_w8_42, b_w8_43, b_w8_44, b_w8_45, b_w8_46, b_w8_47, b_w8_48, b_w8_49, b_w8_50, b_w8_51, b_w8_52, b_w8_53, b_w8_54, b_w8_55, b_w8_56, b_w8_57, b_w8_58, b_w8_59, b_w8_60, b_w8_61, b_w8_62, b_w8_63, b_w8_64, b_w8_65, b_w8_66, b_w8_67, b_w8_68, b_w8_69, b_w8_70, b_w8_71, b_w8_72, b_w8_73, b_w8_74, b_w8_75, b_w8_76, b_w8_77, b_w8_78, b_w8_79, b_w8_80, b_w8_81, b_w8_82, b_w8_83, b_w8_84, b_w8_85, b_w8_86, b_w8_87, b_w8_88, b_w8_89, b_w8_90, b_w8_91, b_w8_92, b_w8_93, b_O0, b_F0_0, b_V0_0, b_F0_1, b_V0_1, b_F0_2, b_V0_2, b_F0_3, b_V0_3, b_F0_4, b_V0_4, b_F0_5, b_V0_5, b_F0_6, b_V0_6, b_F0_7, b_V0_7, b_F0_8, b_V0_8, b_F0_9, b_V0_9, b_O1, b_F1_0, b_V1_0, b_F1_1, b_V1_1, b_F1_2, b_V1_2, b_F1_3, b_V1_3, b_F1_4, b_V1_4, b_F1_5, b_V1_5, b_F1_6, b_V1_6, b_F1_7, b_V1_7, b_O2, b_F2_0, b_V2_0, b_F2_1, b_V2_1, b_F2_2, b_V2_2, b_O3, b_F3_0, b_V3_0, b_F3_1, b_V3_1, b_F3_2, b_V3_2, b_F3_3, b_V3_3, b_O4, b_F4_0, b_V4_0, b_F4_1, b_V4_1, b_F4_2, b_V4_2, b_F4_3, b_V4_3, b_F4_4, b_V4_4, b_F4_5, b_V4_5, b_F4_6, b_V4_6, b_F4_7, b_V4_7, b_F4_8, b_V4_8, b_F4_9, b_V4_9, b_F4_10, b_V4_10, b_O5, b_F5_0, b_V5_0, b_F5_1, b_V5_1, b_O6, b_F6_0, b_V6_0, b_F6_1, b_V6_1, b_F6_2, b_V6_2, b_F6_3, b_V6_3, b_F6_4, b_V6_4, b_inI, b_inJ, b_aI, b_aJ, b_inW, b_sI, b_inL, b_aL, b_sL, b_aQ, b_sQ, b_isA, b_isA2, b_isA3, b_ln, b_sC, b_us, b_fit0, b_fit1, reduceIte, Nat.reduceAdd, Nat.reduceEqDiff, Nat.succ_ne_self, Nat.one_ne_zero, Nat.zero_ne_one, Nat.zero_add, tnw_ne, pcw_ne, b_inQ2, b_inP2, b_aQ2, b_sQ2, scw_0, scw_8, scw_9, scw_10, scw_11, scw_12, scw_ne, tnw_at, rdw_r, rdw_t, rdw_ne, b_un]; refine b_inb ?_ ?_ <;> omega) | fail) only [e_19_0, e_19_1, e_19_4, e_19_7, e_19_10, e_19_21, b_isI, b_isR, b_isL, b_isD, b_gv, b_gi, b_nn, b_l1, b_l2, b_e0, b_ei, b_er, b_el, b_ed, b_w80, b_w8_0, b_w8_1, b_w8_2, b_w8_3, b_w8_4, b_w8_5, b_w8_6, b_w8_7, b_w8_8, b_w8_9, b_w8_10, b_w8_11, b_w8_12, b_w8_13, b_w8_14, b_w8_15, b_w8_16, b_w8_17, b_w8_18, b_w8_19, b_w8_20, b_w8_21, b_w8_22, b_w8_23, b_w8_24, b_w8_25, b_w8_26, b_w8_27, b_w8_28, b_w8_29, b_w8_30, b_w8_31, b_w8_32, b_w8_33, b_w8_34, b_w8_35, b_w8_36, b_w8_37, b_w8_38, b_w8_39, b_w8_40, b_w8_41, b_w8_42, b_w8_43, b_w8_44, b_w8_45, b_w8_46, b_w8_47, b_w8_48, b_w8_49, b_w8_50, b_w8_51, b_w8_52, b_w8_53, b_w8_54, b_w8_55, b_w8_56, b_w8_57, b_w8_58, b_w8_59, b_w8_60, b_w8_61, b_w8_62, b_w8_63, b_w8_64, b_w8_65, b_w8_66, b_w8_67, b_w8_68, b_w8_69, b_w8_70, b_w8_71, b_w8_72, b_w8_73, b_w8_74, b_w8_75, b_w8_76, b_w8_77, b_w8_78, b_w8_79, b_w8_80, b_w8_81, b_w8_82, b_w8_83, b_w8_84, b_w8_85, b_w8_86, b_w8_87, b_w8_88, b_w8_89, b_w8_90, b_w8_91, b_w8_92, b_w8_93, b_O0, b_F0_0, b_V0_0, b_S0_0, b_F0_1, b_V0_1, b_S0_1, b_F0_2, b_V0_2, b_S0_2, b_F0_3, b_V0_3, b_S0_3, b_F0_4, b_V0_4, b_S0_4, b_F0_5, b_V0_5, b_S0_5, b_F0_6, b_V0_6, b_S0_6, b_F0_7, b_V0_7, b_S0_7, b_F0_8, b_V0_8, b_S0_8, b_F0_9, b_V0_9, b_S0_9, b_O1, b_F1_0, b_V1_0, b_S1_0, b_F1_1, b_V1_1, b_S1_1, b_F1_2, b_V1_2, b_S1_2, b_F1_3, b_V1_3, b_S1_3, b_F1_4, b_V1_4, b_S1_4, b_F1_5, b_V1_5, b_S1_5, b_F1_6, b_V1_6, b_S1_6, b_F1_7, b_V1_7, b_S1_7, b_O2, b_F2_0, b_V2_0, b_S2_0, b_F2_1, b_V2_1, b_S2_1, b_F2_2, b_V2_2, b_S2_2, b_O3, b_F3_0, b_V3_0, b_S3_0, b_F3_1, b_V3_1, b_S3_1, b_F3_2, b_V3_2, b_S3_2, b_F3_3, b_V3_3, b_S3_3, b_O4, b_F4_0, b_V4_0, b_S4_0, b_F4_1, b_V4_1, b_S4_1, b_F4_2, b_V4_2, b_S4_2, b_F4_3, b_V4_3, b_S4_3, b_F4_4, b_V4_4, b_S4_4, b_F4_5, b_V4_5, b_S4_5, b_F4_6, b_V4_6, b_S4_6, b_F4_7, b_V4_7, b_S4_7, b_F4_8, b_V4_8, b_S4_8, b_F4_9, b_V4_9, b_S4_9, b_F4_10, b_V4_10, b_S4_10, b_O5, b_F5_0, b_V5_0, b_S5_0, b_F5_1, b_V5_1, b_S5_1, b_O6, b_F6_0, b_V6_0, b_S6_0, b_F6_1, b_V6_1, b_S6_1, b_F6_2, b_V6_2, b_S6_2, b_F6_3, b_V6_3, b_S6_3, b_F6_4, b_V6_4, b_S6_4, b_inI, b_inJ, b_aI, b_aJ, b_inW, b_sI, b_inL, b_aL, b_sL, b_isA, b_isA2, b_isA3, b_ln, b_sC, ab_aft_v, ab_aft_r, b_us, reduceIte, Nat.reduceAdd, Nat.reduceEqDiff, Nat.reduceMul, ite_true, ite_false, Nat.succ_ne_self, Nat.one_ne_zero, Nat.zero_ne_one, Nat.zero_add, Nat.add_zero, Nat.add_one_sub_one, List.cons_append, List.nil_append, Option.toList_some, Option.toList_none, b_un, b_leT, b_leF, b_ltT, b_ltF, b_eqT, b_eqF, b_eq0T, b_eq0F, b_le0T, b_le0F, b_gt0T, b_gt0F, l_leT, l_leF, l_ltT, l_ltF, l_eqT, l_eqF, lg_cl, lg_cle, lg_cge, lg_cgt, lg_ce, b_il, b_li, lN_mul, lN_add, b_cl, nI_add, pk_mul, b_neg0, b_nng0, tnw_ne, pcw_ne, b_inQ2, b_inP2, b_aQ2, b_sQ2, scw_0, scw_8, scw_9, scw_10, scw_11, scw_12, scw_ne, tnw_at, rdw_r, rdw_t, rdw_ne, h3, h17]
theorem sp_room {t M w k m b : Nat} {f : Nat → Nat} (h : tn σ t M w k f) (hk : k + m < 100000) (hb : b < 100000) (hr : k + m ≤ b) : ab_Cl 18 [.ref t, .int (nI m), .int (nI b)] (g, σ) = some (.inl none, (g, σ)) := by
  have h0 := tn_hd h
  unfold ab_Cl; simp (disch := first | (simp -implicitDefEqProofs (disch := omega) only [*, b_isI, b_isR, b_isL, b_isD, b_gv, b_gi, b_nn, b_l1, b_l2, b_e0, b_ei, b_er, b_el, b_ed, b_w80, b_w8_0, b_w8_1, b_w8_2, b_w8_3, b_w8_4, b_w8_5, b_w8_6, b_w8_7, b_w8_8, b_w8_9, b_w8_10, b_w8_11, b_w8_12, b_w8_13, b_w8_14, b_w8_15, b_w8_16, b_w8_17, b_w8_18, b_w8_19, b_w8_20, b_w8_21, b_w8_22, b_w8_23, b_w8_24, b_w8_25, b_w8_26, b_w8_27, b_w8_28, b_w8_29, b_w8_30, b_w8_31, b_w8_32, b_w8_33, b_w8_34, b_w8_35, b_w8_36, b_w8_37, b_w8_38, b_w8_39, b_w8_40, b_w8_41, b_w8_42, b_w8_43, b_w8_44, b_w8_45, b_w8_46, b_w8_47, b_w8_48, b_w8_49, b_w8_50, b_w8_51, b_w8_52, b_w8_53, b_w8_54, b_w8_55, b_w8_56, b_w8_57, b_w8_58, b_w8_59, b_w8_60, b_w8_61, b_w8_62, b_w8_63, b_w8_64, b_w8_65, b_w8_66, b_w8_67, b_w8_68, b_w8_69, b_w8_70, b_w8_71, b_w8_72, b_w8_73, b_w8_74, b_w8_75, b_w8_76, b_w8_77, b_w8_78, b_w8_79, b_w8_80, b_w8_81, b_w8_82, b_w8_83, b_w8_84, b_w8_85, b_w8_86, b_w8_87, b_w8_88, b_w8_89, b_w8_90, b_w8_91, b_w8_92, b_w8_93, b_O0, b_F0_0, b_V0_0, b_F0_1, b_V0_1, b_F0_2, b_V0_2, b_F0_3, b_V0_3, b_F0_4, b_V0_4, b_F0_5, b_V0_5, b_F0_6, b_V0_6, b_F0_7, b_V0_7, b_F0_8, b_V0_8, b_F0_9, b_V0_9, b_O1, b_F1_0, b_V1_0, b_F1_1, b_V1_1, b_F1_2, b_V1_2, b_F1_3, b_V1_3, b_F1_4, b_V1_4, b_F1_5, b_V1_5, b_F1_6, b_V1_6, b_F1_7, b_V1_7, b_O2, b_F2_0, b_V2_0, b_F2_1, b_V2_1, b_F2_2, b_V2_2, b_O3, b_F3_0, b_V3_0, b_F3_1, b_V3_1, b_F3_2, b_V3_2, b_F3_3, b_V3_3, b_O4, b_F4_0, b_V4_0, b_F4_1, b_V4_1, b_F4_2, b_V4_2, b_F4_3, b_V4_3, b_F4_4, b_V4_4, b_F4_5, b_V4_5, b_F4_6, b_V4_6, b_F4_7, b_V4_7, b_F4_8, b_V4_8, b_F4_9, b_V4_9, b_F4_10, b_V4_10, b_O5, b_F5_0, b_V5_0, b_F5_1, b_V5_1, b_O6, b_F6_0, b_V6_0, b_F6_1, b_V6_1, b_F6_2, b_V6_2, b_F6_3, b_V6_3, b_F6_4, b_V6_4, b_inI, b_inJ, b_aI, b_aJ, b_inW, b_sI, b_inL, b_aL, b_sL, b_aQ, b_sQ, b_isA, b_isA2, b_isA3, b_ln, b_sC, b_us, b_fit0, b_fit1, reduceIte, Nat.reduceAdd, Nat.reduceEqDiff, Nat.succ_ne_self, Nat.one_ne_zero, Nat.zero_ne_one, Nat.zero_add, tnw_ne, pcw_ne, b_inQ2, b_inP2, b_aQ2, b_sQ2, scw_0, scw_8, scw_9, scw_10, scw_11, scw_12, scw_ne, tnw_at, rdw_r, rdw_t, rdw_ne, b_un]; done) | omega | (simp -implicitDefEqProofs (disch := omega) only [*, b_isI, b_isR, b_isL, b_isD, b_gv, b_gi, b_nn, b_l1, b_l2, b_e0, b_ei, b_er, b_el, b_ed, b_w80, b_w8_0, b_w8_1, b_w8_2, b_w8_3, b_w8_4, b_w8_5, b_w8_6, b_w8_7, b_w8_8, b_w8_9, b_w8_10, b_w8_11, b_w8_12, b_w8_13, b_w8_14, b_w8_15, b_w8_16, b_w8_17, b_w8_18, b_w8_19, b_w8_20, b_w8_21, b_w8_22, b_w8_23, b_w8_24, b_w8_25, b_w8_26, b_w8_27, b_w8_28, b_w8_29, b_w8_30, b_w8_31, b_w8_32, b_w8_33, b_w8_34, b_w8_35, b_w8_36, b_w8_37, b_w8_38, b_w8_39, b_w8_40, b_w8_41, b_w8_42, b_w8_43, b_w8_44, b_w8_45, b_w8_46, b_w8_47, b_w8_48, b_w8_49, b_w8_50, b_w8_51, b_w8_52, b_w8_53, b_w8_54, b_w8_55, b_w8_56, b_w8_57, b_w8_58, b_w8_59, b_w8_60, b_w8_61, b_w8_62, b_w8_63, b_w8_64, b_w8_65, b_w8_66, b_w8_67, b_w8_68, b_w8_69, b_w8_70, b_w8_71, b_w8_72, b_w8_73, b_w8_74, b_w8_75, b_w8_76, b_w8_77, b_w8_78, b_w8_79, b_w8_80, b_w8_81, b_w8_82, b_w8_83, b_w8_84, b_w8_85, b_w8_86, b_w8_87, b_w8_88, b_w8_89, b_w8_90, b_w8_91, b_w8_92, b_w8_93, b_O0, b_F0_0, b_V0_0, b_F0_1, b_V0_1, b_F0_2, b_V0_2, b_F0_3, b_V0_3, b_F0_4, b_V0_4, b_F0_5, b_V0_5, b_F0_6, b_V0_6, b_F0_7, b_V0_7, b_F0_8, b_V0_8, b_F0_9, b_V0_9, b_O1, b_F1_0, b_V1_0, b_F1_1, b_V1_1, b_F1_2, b_V1_2, b_F1_3, b_V1_3, b_F1_4, b_V1_4, b_F1_5, b_V1_5, b_F1_6, b_V1_6, b_F1_7, b_V1_7, b_O2, b_F2_0, b_V2_0, b_F2_1, b_V2_1, b_F2_2, b_V2_2, b_O3, b_F3_0, b_V3_0, b_F3_1, b_V3_1, b_F3_2, b_V3_2, b_F3_3, b_V3_3, b_O4, b_F4_0, b_V4_0, b_F4_1, b_V4_1, b_F4_2, b_V4_2, b_F4_3, b_V4_3, b_F4_4, b_V4_4, b_F4_5, b_V4_5, b_F4_6, b_V4_6, b_F4_7, b_V4_7, b_F4_8, b_V4_8, b_F4_9, b_V4_9, b_F4_10, b_V4_10, b_O5, b_F5_0, b_V5_0, b_F5_1, b_V5_1, b_O6, b_F6_0, b_V6_0, b_F6_1, b_V6_1, b_F6_2, b_V6_2, b_F6_3, b_V6_3, b_F6_4, b_V6_4, b_inI, b_inJ, b_aI, b_aJ, b_inW, b_sI, b_inL, b_aL, b_sL, b_aQ, b_sQ, b_isA, b_isA2, b_isA3, b_ln, b_sC, b_us, b_fit0, b_fit1, reduceIte, Nat.reduceAdd, Nat.reduceEqDiff, Nat.succ_ne_self, Nat.one_ne_zero, Nat.zero_ne_one, Nat.zero_add, tnw_ne, pcw_ne, b_inQ2, b_inP2, b_aQ2, b_sQ2, scw_0, scw_8, scw_9, scw_10, scw_11, scw_12, scw_ne, tnw_at, rdw_r, rdw_t, rdw_ne, b_un]; refine b_inb ?_ ?_ <;> omega) | fail) only [e_18_0, e_18_1, e_18_4, e_18_5, e_18_6, e_18_7, e_18_10, e_18_21, b_isI, b_isR, b_isL, b_isD, b_gv, b_gi, b_nn, b_l1, b_l2, b_e0, b_ei, b_er, b_el, b_ed, b_w80, b_w8_0, b_w8_1, b_w8_2, b_w8_3, b_w8_4, b_w8_5, b_w8_6, b_w8_7, b_w8_8, b_w8_9, b_w8_10, b_w8_11, b_w8_12, b_w8_13, b_w8_14, b_w8_15, b_w8_16, b_w8_17, b_w8_18, b_w8_19, b_w8_20, b_w8_21, b_w8_22, b_w8_23, b_w8_24, b_w8_25, b_w8_26, b_w8_27, b_w8_28, b_w8_29, b_w8_30, b_w8_31, b_w8_32, b_w8_33, b_w8_34, b_w8_35, b_w8_36, b_w8_37, b_w8_38, b_w8_39, b_w8_40, b_w8_41, b_w8_42, b_w8_43, b_w8_44, b_w8_45, b_w8_46, b_w8_47, b_w8_48, b_w8_49, b_w8_50, b_w8_51, b_w8_52, b_w8_53, b_w8_54, b_w8_55, b_w8_56, b_w8_57, b_w8_58, b_w8_59, b_w8_60, b_w8_61, b_w8_62, b_w8_63, b_w8_64, b_w8_65, b_w8_66, b_w8_67, b_w8_68, b_w8_69, b_w8_70, b_w8_71, b_w8_72, b_w8_73, b_w8_74, b_w8_75, b_w8_76, b_w8_77, b_w8_78, b_w8_79, b_w8_80, b_w8_81, b_w8_82, b_w8_83, b_w8_84, b_w8_85, b_w8_86, b_w8_87, b_w8_88, b_w8_89, b_w8_90, b_w8_91, b_w8_92, b_w8_93, b_O0, b_F0_0, b_V0_0, b_S0_0, b_F0_1, b_V0_1, b_S0_1, b_F0_2, b_V0_2, b_S0_2, b_F0_3, b_V0_3, b_S0_3, b_F0_4, b_V0_4, b_S0_4, b_F0_5, b_V0_5, b_S0_5, b_F0_6, b_V0_6, b_S0_6, b_F0_7, b_V0_7, b_S0_7, b_F0_8, b_V0_8, b_S0_8, b_F0_9, b_V0_9, b_S0_9, b_O1, b_F1_0, b_V1_0, b_S1_0, b_F1_1, b_V1_1, b_S1_1, b_F1_2, b_V1_2, b_S1_2, b_F1_3, b_V1_3, b_S1_3, b_F1_4, b_V1_4, b_S1_4, b_F1_5, b_V1_5, b_S1_5, b_F1_6, b_V1_6, b_S1_6, b_F1_7, b_V1_7, b_S1_7, b_O2, b_F2_0, b_V2_0, b_S2_0, b_F2_1, b_V2_1, b_S2_1, b_F2_2, b_V2_2, b_S2_2, b_O3, b_F3_0, b_V3_0, b_S3_0, b_F3_1, b_V3_1, b_S3_1, b_F3_2, b_V3_2, b_S3_2, b_F3_3, b_V3_3, b_S3_3, b_O4, b_F4_0, b_V4_0, b_S4_0, b_F4_1, b_V4_1, b_S4_1, b_F4_2, b_V4_2, b_S4_2, b_F4_3, b_V4_3, b_S4_3, b_F4_4, b_V4_4, b_S4_4, b_F4_5, b_V4_5, b_S4_5, b_F4_6, b_V4_6, b_S4_6, b_F4_7, b_V4_7, b_S4_7, b_F4_8, b_V4_8, b_S4_8, b_F4_9, b_V4_9, b_S4_9, b_F4_10, b_V4_10, b_S4_10, b_O5, b_F5_0, b_V5_0, b_S5_0, b_F5_1, b_V5_1, b_S5_1, b_O6, b_F6_0, b_V6_0, b_S6_0, b_F6_1, b_V6_1, b_S6_1, b_F6_2, b_V6_2, b_S6_2, b_F6_3, b_V6_3, b_S6_3, b_F6_4, b_V6_4, b_S6_4, b_inI, b_inJ, b_aI, b_aJ, b_inW, b_sI, b_inL, b_aL, b_sL, b_isA, b_isA2, b_isA3, b_ln, b_sC, ab_aft_v, ab_aft_r, b_us, reduceIte, Nat.reduceAdd, Nat.reduceEqDiff, Nat.reduceMul, ite_true, ite_false, Nat.succ_ne_self, Nat.one_ne_zero, Nat.zero_ne_one, Nat.zero_add, Nat.add_zero, Nat.add_one_sub_one, List.cons_append, List.nil_append, Option.toList_some, Option.toList_none, b_un, b_leT, b_leF, b_ltT, b_ltF, b_eqT, b_eqF, b_eq0T, b_eq0F, b_le0T, b_le0F, b_gt0T, b_gt0F, l_leT, l_leF, l_ltT, l_ltF, l_eqT, l_eqF, lg_cl, lg_cle, lg_cge, lg_cgt, lg_ce, b_il, b_li, lN_mul, lN_add, b_cl, nI_add, pk_mul, b_neg0, b_nng0, tnw_ne, pcw_ne, b_inQ2, b_inP2, b_aQ2, b_sQ2, scw_0, scw_8, scw_9, scw_10, scw_11, scw_12, scw_ne, tnw_at, rdw_r, rdw_t, rdw_ne, h0, nI_add]
/-! begin -/
/-! arguments: what is in range -/
def inX (x : Int32) (n : Nat) : Prop := ∃ j, j < n ∧ x = nI j
def inR (x : Int32) (lo hi : Nat) : Prop := ∃ j, lo ≤ j ∧ j ≤ hi ∧ x = nI j
def inL (x : Int64) (lo hi : Nat) : Prop := ∃ j, lo ≤ j ∧ j ≤ hi ∧ x = lN j
theorem inX_not {x : Int32} {n : Nat} (hn : n < 2147483648) (h : ¬ inX x n) : x < 0 ∨ nI n ≤ x := by
  rcases pk_ix x (n := n) (by omega) with z | z | ⟨j, z, e⟩
  · exact Or.inl z
  · exact Or.inr z
  · exact absurd ⟨j, z, e⟩ h
theorem i_l_lt {x y : Int32} (h : x < y) : x.toInt64 < y.toInt64 := by
  rw [Int64.lt_iff_toInt_lt, Int32.toInt_toInt64, Int32.toInt_toInt64]
  exact Int32.lt_iff_toInt_lt.mp h
theorem inR_not {x : Int32} {lo hi : Nat} (h1 : lo ≤ hi) (hn : hi < 2147483647) (h : ¬ inR x lo hi) : x.toInt64 < lN lo ∨ ¬ x.toInt64 ≤ lN hi := by
  rcases pk_ix x (n := hi + 1) (by omega) with z | z | ⟨j, z, e⟩
  · refine Or.inl ?_
    have e := i_l_lt z
    have e0 : (0 : Int32).toInt64 = lN 0 := rfl
    rw [e0] at e
    by_cases l : lo = 0
    · rw [l]; exact e
    · have f : lN 0 < lN lo := (pk_lLT (by omega) (by omega)).mpr (by omega)
      exact Int64.lt_trans e f
  · refine Or.inr (fun w => ?_)
    have w2 := Int64.le_iff_toInt_le.mp w
    rw [Int32.toInt_toInt64, pk_lT (by omega)] at w2
    have z2 := Int32.le_iff_toInt_le.mp z
    rw [nI_toInt (by omega)] at z2
    omega
  · by_cases l : lo ≤ j
    · exact absurd ⟨j, l, by omega, e⟩ h
    · refine Or.inl ?_
      rw [e, nI_l (by omega)]
      exact (pk_lLT (by omega) (by omega)).mpr (by omega)
theorem inL_not {x : Int64} {lo hi : Nat} (h1 : lo ≤ hi) (hn : hi < 9223372036854775807) (h : ¬ inL x lo hi) : x < lN lo ∨ ¬ x ≤ lN hi := by
  by_cases z : x < 0
  · refine Or.inl ?_
    have e : x < lN 0 := z
    by_cases l : lo = 0
    · rw [l]; exact e
    · exact Int64.lt_trans e ((pk_lLT (by omega) (by omega)).mpr (by omega))
  · obtain ⟨k, hk, e⟩ := pk_lOf z
    rw [e]
    by_cases l : k < lo
    · exact Or.inl ((pk_lLT (by omega) (by omega)).mpr l)
    · refine Or.inr (fun w => h ⟨k, by omega, (pk_lLE (by omega) (by omega)).mp w, e⟩)
theorem sp_rgT {w : ab_W} {v lo hi : Nat} (h1 : lo ≤ v) (h2 : v ≤ hi) (h3 : hi < 9223372036854775807) : ab_Cl 17 [.long (lN v), .long (lN lo), .long (lN hi)] w = some (.inl none, w) :=
  sp_rg (fun z => by have := (pk_lLT (by omega) (by omega)).mp z; omega) ((pk_lLE (by omega) (by omega)).mpr h2)
theorem a_ls {w : Nat} : (ab_least w).toInt32 = nI (if w = 2 then 100 else 1) := t_least_is
theorem a_ms {w : Nat} : (ab_most w).toInt32 = nI (if w = 0 then 12 else if w = 1 then 8 else if w = 2 then 60000 else if w = 3 then 20000 else 4095) := by
  unfold ab_most
  by_cases h0 : w = 0
  · rw [if_pos h0, if_pos h0]; rfl
  · by_cases h1 : w = 1
    · rw [if_neg h0, if_neg h0, if_pos h1, if_pos h1]; rfl
    · by_cases h2 : w = 2
      · rw [if_neg h0, if_neg h0, if_neg h1, if_neg h1, if_pos h2, if_pos h2]; rfl
      · by_cases h3 : w = 3
        · rw [if_neg h0, if_neg h0, if_neg h1, if_neg h1, if_neg h2, if_neg h2, if_pos h3, if_pos h3]; rfl
        · rw [if_neg h0, if_neg h0, if_neg h1, if_neg h1, if_neg h2, if_neg h2, if_neg h3, if_neg h3]; rfl
theorem a_l0 : (ab_least 0).toInt32 = nI 1 := a_ls
theorem a_l1 : (ab_least 1).toInt32 = nI 1 := a_ls
theorem a_m0 : (ab_most 0).toInt32 = nI 12 := a_ms
theorem a_m1 : (ab_most 1).toInt32 = nI 8 := a_ms
theorem cw0_st (h : cw0 σ P n H I J kp len a X) : σ 1 = some (ab_ra 5 ab_least) ∧ σ 2 = some (ab_ra 5 ab_most) := ⟨h.1.1, h.1.2.1⟩
/-! addBar -/
theorem put5_lo {f : Nat → Nat} {i p q r s t j : Nat} (h : j < i) : put5 f i p q r s t j = f j := by
  unfold put5
  rw [b_un (by omega), b_un (by omega), b_un (by omega), b_un (by omega), b_un (by omega)]
theorem put5_at {f : Nat → Nat} {i p q r s t : Nat} : put5 f i p q r s t i = p ∧ put5 f i p q r s t (i + 1) = q ∧ put5 f i p q r s t (i + 2) = r ∧ put5 f i p q r s t (i + 3) = s ∧ put5 f i p q r s t (i + 4) = t := by
  unfold put5
  refine ⟨?_, ?_, ?_, ?_, b_us⟩
  · rw [b_un (by omega), b_un (by omega), b_un (by omega), b_un (by omega), b_us]
  · rw [b_un (by omega), b_un (by omega), b_un (by omega), b_us]
  · rw [b_un (by omega), b_un (by omega), b_us]
  · rw [b_un (by omega), b_us]
theorem okB_put {B : Nat → Nat} {b p q r s t : Nat} (h : okB B b) (hb : b < 24) (hp : 1 ≤ p ∧ p ≤ 12) (hq : 1 ≤ q ∧ q ≤ 8) (hr : r = 0 ∨ 100 ≤ r ∧ r ≤ 60000) (hs : s ≤ 20000) (ht : t < 4096) : okB (put5 B (5 * b) p q r s t) (b + 1) := by
  refine ⟨by omega, fun i hi => ?_⟩
  by_cases z : i = b
  · subst z
    obtain ⟨e0, e1, e2, e3, e4⟩ := put5_at (f := B) (i := 5 * i) (p := p) (q := q) (r := r) (s := s) (t := t)
    rw [e0, e1, e2, e3, e4]
    exact ⟨hp.1, hp.2, hq.1, hq.2, hr, hs, ht⟩
  · rw [put5_lo (by omega), put5_lo (by omega), put5_lo (by omega), put5_lo (by omega), put5_lo (by omega)]
    exact h.2 i (by omega)
theorem okC_up {C : Nat → Nat} {c n m : Nat} (h : okC C c n) (hn : n ≤ m) : okC C c m := ⟨h.1, fun i hi => by have := h.2 i hi; omega⟩
theorem s_fb_put {B : Nat → Nat} {b p q r s t : Nat} : s_fb (put5 B (5 * b) p q r s t) (b + 1) = s_fb B b + p := by
  show s_fb (put5 B (5 * b) p q r s t) b + put5 B (5 * b) p q r s t (5 * b) = _
  rw [put5_at.1, s_fb_c (B := put5 B (5 * b) p q r s t) (D := B) (fun j hj => put5_lo hj) b (Nat.le_refl _)]
theorem okP_put {p q r s t : Nat} (h : okP P) (hb : P.1 < 24) (hp : 1 ≤ p ∧ p ≤ 12) (hq : 1 ≤ q ∧ q ≤ 8) (hr : r = 0 ∨ 100 ≤ r ∧ r ≤ 60000) (hs : s ≤ 20000) (ht : t < 4096) : okP (P.1 + 1, P.2.1, P.2.2.1, put5 P.2.2.2.1 (5 * P.1) p q r s t, P.2.2.2.2.1, P.2.2.2.2.2) := by
  refine ⟨okB_put h.1 hb hp hq hr hs ht, h.2.1, ?_⟩
  show okC P.2.2.2.2.2 P.2.2.1 (s_fb (put5 P.2.2.2.1 (5 * P.1) p q r s t) (P.1 + 1))
  rw [s_fb_put]
  exact okC_up h.2.2 (by omega)
theorem c_addBar {x y : Nat} (h : cw σ P n H I J kp len a X) (hP : okP P) (hX : pbOn X 0) (hx : 1 ≤ x ∧ x ≤ 12) (hy : 1 ≤ y ∧ y ≤ 8) (hb : P.1 < 24) : ∃ σ' H' Q, ab_Cl 1 [.ref 3, .int (nI x), .int (nI y)] (g, σ) = some (.inl (some (.int (nI P.1))), (g, σ')) ∧ cw σ' Q (s_n1 n) H' I J kp len a X ∧ s_rem n H H' P ∧ eqv Q (P.1 + 1, P.2.1, P.2.2.1, put5 P.2.2.2.1 (5 * P.1) x y 0 0 1, P.2.2.2.2.1, P.2.2.2.2.2) ∧ ∀ i, i < 1 ∨ 108 ≤ i → σ' i = σ i := by
  have h0 := cw_0 h
  obtain ⟨s1, s2⟩ := cw0_st h0
  have c0 := sp_rgT (w := (g, σ)) hx.1 hx.2 (by omega)
  have c1 := sp_rgT (w := (g, σ)) hy.1 hy.2 (by omega)
  have c2 := sp_np0 (g := g) h0 hX
  have c3 := sp_room (g := g) (m := 1) (b := 24) h0.2.2.2.1 (by omega) (by omega) (by omega)
  obtain ⟨h3, h4, h5, h6, h8, h10, h18, h17⟩ := cw0_hd h0
  obtain ⟨σ1, H', c4, k1, k2, k3⟩ := cw0_remember (g := g) h0 (okP_fit hP)
  obtain ⟨i3, i4, i5, i6, i8, i10, i18, i17⟩ := cw0_hd k1
  have c5 := sp_appendBar (g := g) (x := x) (y := y) k1.2.2.2.1 hb (by omega)
  have k4 := cw0_bars (k := P.1 + 1) (f := put5 P.2.2.2.1 (5 * P.1) x y 0 0 1) k1
  obtain ⟨j3, j4, j5, j6, j8, j10, j18, j17⟩ := cw0_hd k4
  have z := okP_put (r := 0) (s := 0) (t := 1) hP hb hx hy (Or.inl rfl) (by omega) (by omega)
  obtain ⟨σ2, c', C', c6, k5, k6, k7⟩ := cw0_settle (g := g) k4 z.1 z.2.1 z.2.2.1 (fun j hj => by have := (z.2.2.2 j hj).1; have := s_fb_288 z.1 (Nat.le_refl _); omega)
  obtain ⟨l3, l4, l5, l6, l8, l10, l18, l17⟩ := cw0_hd (cw_0 k5)
  have e : nI (P.1 + 1) - nI 1 = nI P.1 := pk_sub (by omega)
  have b24 := hP.1.1
  refine ⟨σ2, H', _, ?_, k5, k2, s_flt_all z k6, fun i hi => ?_⟩
  · clear k1 k2 k3 k4 k5 k6 k7 z h h0 hX hP
    simp only at j6 l6
    unfold ab_Cl; simp (disch := first | (simp -implicitDefEqProofs (disch := omega) only [*, b_isI, b_isR, b_isL, b_isD, b_gv, b_gi, b_nn, b_l1, b_l2, b_e0, b_ei, b_er, b_el, b_ed, b_w80, b_w8_0, b_w8_1, b_w8_2, b_w8_3, b_w8_4, b_w8_5, b_w8_6, b_w8_7, b_w8_8, b_w8_9, b_w8_10, b_w8_11, b_w8_12, b_w8_13, b_w8_14, b_w8_15, b_w8_16, b_w8_17, b_w8_18, b_w8_19, b_w8_20, b_w8_21, b_w8_22, b_w8_23, b_w8_24, b_w8_25, b_w8_26, b_w8_27, b_w8_28, b_w8_29, b_w8_30, b_w8_31, b_w8_32, b_w8_33, b_w8_34, b_w8_35, b_w8_36, b_w8_37, b_w8_38, b_w8_39, b_w8_40, b_w8_41, b_w8_42, b_w8_43, b_w8_44, b_w8_45, b_w8_46, b_w8_47, b_w8_48, b_w8_49, b_w8_50, b_w8_51, b_w8_52, b_w8_53, b_w8_54, b_w8_55, b_w8_56, b_w8_57, b_w8_58, b_w8_59, b_w8_60, b_w8_61, b_w8_62, b_w8_63, b_w8_64, b_w8_65, b_w8_66, b_w8_67, b_w8_68, b_w8_69, b_w8_70, b_w8_71, b_w8_72, b_w8_73, b_w8_74, b_w8_75, b_w8_76, b_w8_77, b_w8_78, b_w8_79, b_w8_80, b_w8_81, b_w8_82, b_w8_83, b_w8_84, b_w8_85, b_w8_86, b_w8_87, b_w8_88, b_w8_89, b_w8_90, b_w8_91, b_w8_92, b_w8_93, b_O0, b_F0_0, b_V0_0, b_F0_1, b_V0_1, b_F0_2, b_V0_2, b_F0_3, b_V0_3, b_F0_4, b_V0_4, b_F0_5, b_V0_5, b_F0_6, b_V0_6, b_F0_7, b_V0_7, b_F0_8, b_V0_8, b_F0_9, b_V0_9, b_O1, b_F1_0, b_V1_0, b_F1_1, b_V1_1, b_F1_2, b_V1_2, b_F1_3, b_V1_3, b_F1_4, b_V1_4, b_F1_5, b_V1_5, b_F1_6, b_V1_6, b_F1_7, b_V1_7, b_O2, b_F2_0, b_V2_0, b_F2_1, b_V2_1, b_F2_2, b_V2_2, b_O3, b_F3_0, b_V3_0, b_F3_1, b_V3_1, b_F3_2, b_V3_2, b_F3_3, b_V3_3, b_O4, b_F4_0, b_V4_0, b_F4_1, b_V4_1, b_F4_2, b_V4_2, b_F4_3, b_V4_3, b_F4_4, b_V4_4, b_F4_5, b_V4_5, b_F4_6, b_V4_6, b_F4_7, b_V4_7, b_F4_8, b_V4_8, b_F4_9, b_V4_9, b_F4_10, b_V4_10, b_O5, b_F5_0, b_V5_0, b_F5_1, b_V5_1, b_O6, b_F6_0, b_V6_0, b_F6_1, b_V6_1, b_F6_2, b_V6_2, b_F6_3, b_V6_3, b_F6_4, b_V6_4, b_inI, b_inJ, b_aI, b_aJ, b_inW, b_sI, b_inL, b_aL, b_sL, b_aQ, b_sQ, b_isA, b_isA2, b_isA3, b_ln, b_sC, b_us, b_fit0, b_fit1, reduceIte, Nat.reduceAdd, Nat.reduceEqDiff, Nat.succ_ne_self, Nat.one_ne_zero, Nat.zero_ne_one, Nat.zero_add, rv_17, rv_18, rv_19, rv_21, rv_27, rv_60, tnw_ne, pcw_ne, b_inQ2, b_inP2, b_aQ2, b_sQ2, scw_0, scw_8, scw_9, scw_10, scw_11, scw_12, scw_ne, tnw_at, rdw_r, rdw_t, rdw_ne, b_un]; done) | omega | (simp -implicitDefEqProofs (disch := omega) only [*, b_isI, b_isR, b_isL, b_isD, b_gv, b_gi, b_nn, b_l1, b_l2, b_e0, b_ei, b_er, b_el, b_ed, b_w80, b_w8_0, b_w8_1, b_w8_2, b_w8_3, b_w8_4, b_w8_5, b_w8_6, b_w8_7, b_w8_8, b_w8_9, b_w8_10, b_w8_11, b_w8_12, b_w8_13, b_w8_14, b_w8_15, b_w8_16, b_w8_17, b_w8_18, b_w8_19, b_w8_20, b_w8_21, b_w8_22, b_w8_23, b_w8_24, b_w8_25, b_w8_26, b_w8_27, b_w8_28, b_w8_29, b_w8_30, b_w8_31, b_w8_32, b_w8_33, b_w8_34, b_w8_35, b_w8_36, b_w8_37, b_w8_38, b_w8_39, b_w8_40, b_w8_41, b_w8_42, b_w8_43, b_w8_44, b_w8_45, b_w8_46, b_w8_47, b_w8_48, b_w8_49, b_w8_50, b_w8_51, b_w8_52, b_w8_53, b_w8_54, b_w8_55, b_w8_56, b_w8_57, b_w8_58, b_w8_59, b_w8_60, b_w8_61, b_w8_62, b_w8_63, b_w8_64, b_w8_65, b_w8_66, b_w8_67, b_w8_68, b_w8_69, b_w8_70, b_w8_71, b_w8_72, b_w8_73, b_w8_74, b_w8_75, b_w8_76, b_w8_77, b_w8_78, b_w8_79, b_w8_80, b_w8_81, b_w8_82, b_w8_83, b_w8_84, b_w8_85, b_w8_86, b_w8_87, b_w8_88, b_w8_89, b_w8_90, b_w8_91, b_w8_92, b_w8_93, b_O0, b_F0_0, b_V0_0, b_F0_1, b_V0_1, b_F0_2, b_V0_2, b_F0_3, b_V0_3, b_F0_4, b_V0_4, b_F0_5, b_V0_5, b_F0_6, b_V0_6, b_F0_7, b_V0_7, b_F0_8, b_V0_8, b_F0_9, b_V0_9, b_O1, b_F1_0, b_V1_0, b_F1_1, b_V1_1, b_F1_2, b_V1_2, b_F1_3, b_V1_3, b_F1_4, b_V1_4, b_F1_5, b_V1_5, b_F1_6, b_V1_6, b_F1_7, b_V1_7, b_O2, b_F2_0, b_V2_0, b_F2_1, b_V2_1, b_F2_2, b_V2_2, b_O3, b_F3_0, b_V3_0, b_F3_1, b_V3_1, b_F3_2, b_V3_2, b_F3_3, b_V3_3, b_O4, b_F4_0, b_V4_0, b_F4_1, b_V4_1, b_F4_2, b_V4_2, b_F4_3, b_V4_3, b_F4_4, b_V4_4, b_F4_5, b_V4_5, b_F4_6, b_V4_6, b_F4_7, b_V4_7, b_F4_8, b_V4_8, b_F4_9, b_V4_9, b_F4_10, b_V4_10, b_O5, b_F5_0, b_V5_0, b_F5_1, b_V5_1, b_O6, b_F6_0, b_V6_0, b_F6_1, b_V6_1, b_F6_2, b_V6_2, b_F6_3, b_V6_3, b_F6_4, b_V6_4, b_inI, b_inJ, b_aI, b_aJ, b_inW, b_sI, b_inL, b_aL, b_sL, b_aQ, b_sQ, b_isA, b_isA2, b_isA3, b_ln, b_sC, b_us, b_fit0, b_fit1, reduceIte, Nat.reduceAdd, Nat.reduceEqDiff, Nat.succ_ne_self, Nat.one_ne_zero, Nat.zero_ne_one, Nat.zero_add, rv_17, rv_18, rv_19, rv_21, rv_27, rv_60, tnw_ne, pcw_ne, b_inQ2, b_inP2, b_aQ2, b_sQ2, scw_0, scw_8, scw_9, scw_10, scw_11, scw_12, scw_ne, tnw_at, rdw_r, rdw_t, rdw_ne, b_un]; refine b_inb ?_ ?_ <;> omega) | fail) only [e_1_0, e_1_1, e_1_2, e_1_5, e_1_6, e_1_7, e_1_8, e_1_11, e_1_12, e_1_13, e_1_14, e_1_17, e_1_18, e_1_19, e_1_22, e_1_23, e_1_24, e_1_25, e_1_28, e_1_29, e_1_30, e_1_31, e_1_34, e_1_35, e_1_38, e_1_39, e_1_42, e_1_45, e_1_46, e_1_48, e_1_51, e_1_52, e_1_55, e_1_56, e_1_59, e_1_62, e_1_63, e_1_66, e_1_69, e_1_70, e_1_71, e_1_74, e_1_75, e_1_78, e_1_81, e_1_82, e_1_85, e_1_88, e_1_91, e_1_92, e_1_93, x_1_14, x_1_31, x_1_35, x_1_48, x_1_78, rv_17, rv_18, rv_19, rv_21, rv_27, rv_60, b_isI, b_isR, b_isL, b_isD, b_gv, b_gi, b_nn, b_l1, b_l2, b_e0, b_ei, b_er, b_el, b_ed, b_w80, b_w8_0, b_w8_1, b_w8_2, b_w8_3, b_w8_4, b_w8_5, b_w8_6, b_w8_7, b_w8_8, b_w8_9, b_w8_10, b_w8_11, b_w8_12, b_w8_13, b_w8_14, b_w8_15, b_w8_16, b_w8_17, b_w8_18, b_w8_19, b_w8_20, b_w8_21, b_w8_22, b_w8_23, b_w8_24, b_w8_25, b_w8_26, b_w8_27, b_w8_28, b_w8_29, b_w8_30, b_w8_31, b_w8_32, b_w8_33, b_w8_34, b_w8_35, b_w8_36, b_w8_37, b_w8_38, b_w8_39, b_w8_40, b_w8_41, b_w8_42, b_w8_43, b_w8_44, b_w8_45, b_w8_46, b_w8_47, b_w8_48, b_w8_49, b_w8_50, b_w8_51, b_w8_52, b_w8_53, b_w8_54, b_w8_55, b_w8_56, b_w8_57, b_w8_58, b_w8_59, b_w8_60, b_w8_61, b_w8_62, b_w8_63, b_w8_64, b_w8_65, b_w8_66, b_w8_67, b_w8_68, b_w8_69, b_w8_70, b_w8_71, b_w8_72, b_w8_73, b_w8_74, b_w8_75, b_w8_76, b_w8_77, b_w8_78, b_w8_79, b_w8_80, b_w8_81, b_w8_82, b_w8_83, b_w8_84, b_w8_85, b_w8_86, b_w8_87, b_w8_88, b_w8_89, b_w8_90, b_w8_91, b_w8_92, b_w8_93, b_O0, b_F0_0, b_V0_0, b_S0_0, b_F0_1, b_V0_1, b_S0_1, b_F0_2, b_V0_2, b_S0_2, b_F0_3, b_V0_3, b_S0_3, b_F0_4, b_V0_4, b_S0_4, b_F0_5, b_V0_5, b_S0_5, b_F0_6, b_V0_6, b_S0_6, b_F0_7, b_V0_7, b_S0_7, b_F0_8, b_V0_8, b_S0_8, b_F0_9, b_V0_9, b_S0_9, b_O1, b_F1_0, b_V1_0, b_S1_0, b_F1_1, b_V1_1, b_S1_1, b_F1_2, b_V1_2, b_S1_2, b_F1_3, b_V1_3, b_S1_3, b_F1_4, b_V1_4, b_S1_4, b_F1_5, b_V1_5, b_S1_5, b_F1_6, b_V1_6, b_S1_6, b_F1_7, b_V1_7, b_S1_7, b_O2, b_F2_0, b_V2_0, b_S2_0, b_F2_1, b_V2_1, b_S2_1, b_F2_2, b_V2_2, b_S2_2, b_O3, b_F3_0, b_V3_0, b_S3_0, b_F3_1, b_V3_1, b_S3_1, b_F3_2, b_V3_2, b_S3_2, b_F3_3, b_V3_3, b_S3_3, b_O4, b_F4_0, b_V4_0, b_S4_0, b_F4_1, b_V4_1, b_S4_1, b_F4_2, b_V4_2, b_S4_2, b_F4_3, b_V4_3, b_S4_3, b_F4_4, b_V4_4, b_S4_4, b_F4_5, b_V4_5, b_S4_5, b_F4_6, b_V4_6, b_S4_6, b_F4_7, b_V4_7, b_S4_7, b_F4_8, b_V4_8, b_S4_8, b_F4_9, b_V4_9, b_S4_9, b_F4_10, b_V4_10, b_S4_10, b_O5, b_F5_0, b_V5_0, b_S5_0, b_F5_1, b_V5_1, b_S5_1, b_O6, b_F6_0, b_V6_0, b_S6_0, b_F6_1, b_V6_1, b_S6_1, b_F6_2, b_V6_2, b_S6_2, b_F6_3, b_V6_3, b_S6_3, b_F6_4, b_V6_4, b_S6_4, b_inI, b_inJ, b_aI, b_aJ, b_inW, b_sI, b_inL, b_aL, b_sL, b_isA, b_isA2, b_isA3, b_ln, b_sC, ab_aft_v, ab_aft_r, b_us, reduceIte, Nat.reduceAdd, Nat.reduceEqDiff, Nat.reduceMul, ite_true, ite_false, Nat.succ_ne_self, Nat.one_ne_zero, Nat.zero_ne_one, Nat.zero_add, Nat.add_zero, Nat.add_one_sub_one, List.cons_append, List.nil_append, Option.toList_some, Option.toList_none, b_un, b_leT, b_leF, b_ltT, b_ltF, b_eqT, b_eqF, b_eq0T, b_eq0F, b_le0T, b_le0F, b_gt0T, b_gt0F, l_leT, l_leF, l_ltT, l_ltF, l_eqT, l_eqF, lg_cl, lg_cle, lg_cge, lg_cgt, lg_ce, b_il, b_li, lN_mul, lN_add, b_cl, nI_add, pk_mul, b_neg0, b_nng0, tnw_ne, pcw_ne, b_inQ2, b_inP2, b_aQ2, b_sQ2, scw_0, scw_8, scw_9, scw_10, scw_11, scw_12, scw_ne, tnw_at, rdw_r, rdw_t, rdw_ne, s1, s2, c0, c1, c2, c3, c4, c5, c6, h3, h5, h6, i3, i5, j3, l3, l5, l6, e, a_l0, a_m0, a_l1, a_m1]
  · rw [k7 i (by omega), tnw_ne (by omega) (by omega), k3 i (by omega)]
end
