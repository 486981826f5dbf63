/-! base rows for the simplifier: printed by wip/p34/gen_base.py -/
theorem b_isI {x : Int32} : ab_isI (some (.int x)) = true := rfl
theorem b_isR {x : Nat} : ab_isR (some (.ref x)) = true := rfl
theorem b_isL {x : Int64} : ab_isL (some (.long x)) = true := rfl
theorem b_isD {x : UInt64} : ab_isD (some (.double x)) = true := rfl
theorem b_gv {v : Value} : ab_gv (some v) = v := rfl
theorem b_gi {x : Int32} : ab_gi (some (.int x)) = x := rfl
theorem b_nn : (none : Option Value).isNone = true := rfl
theorem b_l1 {ls : ab_L} {i j : Nat} {v : Value} : ab_l1 ls i v j = if j = i then some v else ls j := rfl
theorem b_l2 {ls : ab_L} {i j : Nat} {v : Value} : ab_l2 ls i v j = if j = i then some v else if j = i + 1 then none else ls j := rfl
theorem b_e0 {i j : Nat} : ab_ent i [] j = none := rfl
theorem b_ei {i j : Nat} {x : Int32} {r : List Value} : ab_ent i (.int x :: r) j = if j = i then some (.int x) else ab_ent (i + 1) r j := rfl
theorem b_er {i j : Nat} {x : Nat} {r : List Value} : ab_ent i (.ref x :: r) j = if j = i then some (.ref x) else ab_ent (i + 1) r j := rfl
theorem b_el {i j : Nat} {x : Int64} {r : List Value} : ab_ent i (.long x :: r) j = if j = i then some (.long x) else ab_ent (i + 2) r j := rfl
theorem b_ed {i j : Nat} {x : UInt64} {r : List Value} : ab_ent i (.double x :: r) j = if j = i then some (.double x) else ab_ent (i + 2) r j := rfl
theorem b_w80 : ab_w8 [] = true := Eq.trans rfl rfl
theorem b_w8_0 {x0 : Int32} : ab_w8 [.int x0] = true := Eq.trans rfl rfl
theorem b_w8_1 {x0 : Nat} : ab_w8 [.ref x0] = true := Eq.trans rfl rfl
theorem b_w8_2 {x0 : Int64} : ab_w8 [.long x0] = true := Eq.trans rfl rfl
theorem b_w8_3 {x0 : UInt64} : ab_w8 [.double x0] = true := Eq.trans rfl rfl
theorem b_w8_4 {x0 : Int32} {x1 : Int32} : ab_w8 [.int x0, .int x1] = true := Eq.trans rfl rfl
theorem b_w8_5 {x0 : Int32} {x1 : Nat} : ab_w8 [.int x0, .ref x1] = true := Eq.trans rfl rfl
theorem b_w8_6 {x0 : Int32} {x1 : Int64} : ab_w8 [.int x0, .long x1] = true := Eq.trans rfl rfl
theorem b_w8_7 {x0 : Int32} {x1 : UInt64} : ab_w8 [.int x0, .double x1] = true := Eq.trans rfl rfl
theorem b_w8_8 {x0 : Nat} {x1 : Int32} : ab_w8 [.ref x0, .int x1] = true := Eq.trans rfl rfl
theorem b_w8_9 {x0 : Nat} {x1 : Nat} : ab_w8 [.ref x0, .ref x1] = true := Eq.trans rfl rfl
theorem b_w8_10 {x0 : Nat} {x1 : Int64} : ab_w8 [.ref x0, .long x1] = true := Eq.trans rfl rfl
theorem b_w8_11 {x0 : Nat} {x1 : UInt64} : ab_w8 [.ref x0, .double x1] = true := Eq.trans rfl rfl
theorem b_w8_12 {x0 : Int64} {x1 : Int32} : ab_w8 [.long x0, .int x1] = true := Eq.trans rfl rfl
theorem b_w8_13 {x0 : Int64} {x1 : Nat} : ab_w8 [.long x0, .ref x1] = true := Eq.trans rfl rfl
theorem b_w8_14 {x0 : Int64} {x1 : Int64} : ab_w8 [.long x0, .long x1] = true := Eq.trans rfl rfl
theorem b_w8_15 {x0 : Int64} {x1 : UInt64} : ab_w8 [.long x0, .double x1] = true := Eq.trans rfl rfl
theorem b_w8_16 {x0 : UInt64} {x1 : Int32} : ab_w8 [.double x0, .int x1] = true := Eq.trans rfl rfl
theorem b_w8_17 {x0 : UInt64} {x1 : Nat} : ab_w8 [.double x0, .ref x1] = true := Eq.trans rfl rfl
theorem b_w8_18 {x0 : UInt64} {x1 : Int64} : ab_w8 [.double x0, .long x1] = true := Eq.trans rfl rfl
theorem b_w8_19 {x0 : UInt64} {x1 : UInt64} : ab_w8 [.double x0, .double x1] = true := Eq.trans rfl rfl
theorem b_w8_20 {x0 : Int32} {x1 : Int32} {x2 : Int32} : ab_w8 [.int x0, .int x1, .int x2] = true := Eq.trans rfl rfl
theorem b_w8_21 {x0 : Int32} {x1 : Int32} {x2 : Nat} : ab_w8 [.int x0, .int x1, .ref x2] = true := Eq.trans rfl rfl
theorem b_w8_22 {x0 : Int32} {x1 : Int32} {x2 : Int64} : ab_w8 [.int x0, .int x1, .long x2] = true := Eq.trans rfl rfl
theorem b_w8_23 {x0 : Int32} {x1 : Int32} {x2 : UInt64} : ab_w8 [.int x0, .int x1, .double x2] = true := Eq.trans rfl rfl
theorem b_w8_24 {x0 : Int32} {x1 : Nat} {x2 : Int32} : ab_w8 [.int x0, .ref x1, .int x2] = true := Eq.trans rfl rfl
theorem b_w8_25 {x0 : Int32} {x1 : Nat} {x2 : Nat} : ab_w8 [.int x0, .ref x1, .ref x2] = true := Eq.trans rfl rfl
theorem b_w8_26 {x0 : Int32} {x1 : Nat} {x2 : Int64} : ab_w8 [.int x0, .ref x1, .long x2] = true := Eq.trans rfl rfl
theorem b_w8_27 {x0 : Int32} {x1 : Nat} {x2 : UInt64} : ab_w8 [.int x0, .ref x1, .double x2] = true := Eq.trans rfl rfl
theorem b_w8_28 {x0 : Int32} {x1 : Int64} {x2 : Int32} : ab_w8 [.int x0, .long x1, .int x2] = true := Eq.trans rfl rfl
theorem b_w8_29 {x0 : Int32} {x1 : Int64} {x2 : Nat} : ab_w8 [.int x0, .long x1, .ref x2] = true := Eq.trans rfl rfl
theorem b_w8_30 {x0 : Int32} {x1 : Int64} {x2 : Int64} : ab_w8 [.int x0, .long x1, .long x2] = true := Eq.trans rfl rfl
theorem b_w8_31 {x0 : Int32} {x1 : Int64} {x2 : UInt64} : ab_w8 [.int x0, .long x1, .double x2] = true := Eq.trans rfl rfl
theorem b_w8_32 {x0 : Int32} {x1 : UInt64} {x2 : Int32} : ab_w8 [.int x0, .double x1, .int x2] = true := Eq.trans rfl rfl
theorem b_w8_33 {x0 : Int32} {x1 : UInt64} {x2 : Nat} : ab_w8 [.int x0, .double x1, .ref x2] = true := Eq.trans rfl rfl
theorem b_w8_34 {x0 : Int32} {x1 : UInt64} {x2 : Int64} : ab_w8 [.int x0, .double x1, .long x2] = true := Eq.trans rfl rfl
theorem b_w8_35 {x0 : Int32} {x1 : UInt64} {x2 : UInt64} : ab_w8 [.int x0, .double x1, .double x2] = true := Eq.trans rfl rfl
theorem b_w8_36 {x0 : Nat} {x1 : Int32} {x2 : Int32} : ab_w8 [.ref x0, .int x1, .int x2] = true := Eq.trans rfl rfl
theorem b_w8_37 {x0 : Nat} {x1 : Int32} {x2 : Nat} : ab_w8 [.ref x0, .int x1, .ref x2] = true := Eq.trans rfl rfl
theorem b_w8_38 {x0 : Nat} {x1 : Int32} {x2 : Int64} : ab_w8 [.ref x0, .int x1, .long x2] = true := Eq.trans rfl rfl
theorem b_w8_39 {x0 : Nat} {x1 : Int32} {x2 : UInt64} : ab_w8 [.ref x0, .int x1, .double x2] = true := Eq.trans rfl rfl
theorem b_w8_40 {x0 : Nat} {x1 : Nat} {x2 : Int32} : ab_w8 [.ref x0, .ref x1, .int x2] = true := Eq.trans rfl rfl
theorem b_w8_41 {x0 : Nat} {x1 : Nat} {x2 : Nat} : ab_w8 [.ref x0, .ref x1, .ref x2] = true := Eq.trans rfl rfl
theorem b_w8_42 {x0 : Nat} {x1 : Nat} {x2 : Int64} : ab_w8 [.ref x0, .ref x1, .long x2] = true := Eq.trans rfl rfl
theorem b_w8_43 {x0 : Nat} {x1 : Nat} {x2 : UInt64} : ab_w8 [.ref x0, .ref x1, .double x2] = true := Eq.trans rfl rfl
theorem b_w8_44 {x0 : Nat} {x1 : Int64} {x2 : Int32} : ab_w8 [.ref x0, .long x1, .int x2] = true := Eq.trans rfl rfl
theorem b_w8_45 {x0 : Nat} {x1 : Int64} {x2 : Nat} : ab_w8 [.ref x0, .long x1, .ref x2] = true := Eq.trans rfl rfl
theorem b_w8_46 {x0 : Nat} {x1 : Int64} {x2 : Int64} : ab_w8 [.ref x0, .long x1, .long x2] = true := Eq.trans rfl rfl
theorem b_w8_47 {x0 : Nat} {x1 : Int64} {x2 : UInt64} : ab_w8 [.ref x0, .long x1, .double x2] = true := Eq.trans rfl rfl
theorem b_w8_48 {x0 : Nat} {x1 : UInt64} {x2 : Int32} : ab_w8 [.ref x0, .double x1, .int x2] = true := Eq.trans rfl rfl
theorem b_w8_49 {x0 : Nat} {x1 : UInt64} {x2 : Nat} : ab_w8 [.ref x0, .double x1, .ref x2] = true := Eq.trans rfl rfl
theorem b_w8_50 {x0 : Nat} {x1 : UInt64} {x2 : Int64} : ab_w8 [.ref x0, .double x1, .long x2] = true := Eq.trans rfl rfl
theorem b_w8_51 {x0 : Nat} {x1 : UInt64} {x2 : UInt64} : ab_w8 [.ref x0, .double x1, .double x2] = true := Eq.trans rfl rfl
theorem b_w8_52 {x0 : Int64} {x1 : Int32} {x2 : Int32} : ab_w8 [.long x0, .int x1, .int x2] = true := Eq.trans rfl rfl
theorem b_w8_53 {x0 : Int64} {x1 : Int32} {x2 : Nat} : ab_w8 [.long x0, .int x1, .ref x2] = true := Eq.trans rfl rfl
theorem b_w8_54 {x0 : Int64} {x1 : Int32} {x2 : Int64} : ab_w8 [.long x0, .int x1, .long x2] = true := Eq.trans rfl rfl
theorem b_w8_55 {x0 : Int64} {x1 : Int32} {x2 : UInt64} : ab_w8 [.long x0, .int x1, .double x2] = true := Eq.trans rfl rfl
theorem b_w8_56 {x0 : Int64} {x1 : Nat} {x2 : Int32} : ab_w8 [.long x0, .ref x1, .int x2] = true := Eq.trans rfl rfl
theorem b_w8_57 {x0 : Int64} {x1 : Nat} {x2 : Nat} : ab_w8 [.long x0, .ref x1, .ref x2] = true := Eq.trans rfl rfl
theorem b_w8_58 {x0 : Int64} {x1 : Nat} {x2 : Int64} : ab_w8 [.long x0, .ref x1, .long x2] = true := Eq.trans rfl rfl
theorem b_w8_59 {x0 : Int64} {x1 : Nat} {x2 : UInt64} : ab_w8 [.long x0, .ref x1, .double x2] = true := Eq.trans rfl rfl
theorem b_w8_60 {x0 : Int64} {x1 : Int64} {x2 : Int32} : ab_w8 [.long x0, .long x1, .int x2] = true := Eq.trans rfl rfl
theorem b_w8_61 {x0 : Int64} {x1 : Int64} {x2 : Nat} : ab_w8 [.long x0, .long x1, .ref x2] = true := Eq.trans rfl rfl
theorem b_w8_62 {x0 : Int64} {x1 : Int64} {x2 : Int64} : ab_w8 [.long x0, .long x1, .long x2] = true := Eq.trans rfl rfl
theorem b_w8_63 {x0 : Int64} {x1 : Int64} {x2 : UInt64} : ab_w8 [.long x0, .long x1, .double x2] = true := Eq.trans rfl rfl
theorem b_w8_64 {x0 : Int64} {x1 : UInt64} {x2 : Int32} : ab_w8 [.long x0, .double x1, .int x2] = true := Eq.trans rfl rfl
theorem b_w8_65 {x0 : Int64} {x1 : UInt64} {x2 : Nat} : ab_w8 [.long x0, .double x1, .ref x2] = true := Eq.trans rfl rfl
theorem b_w8_66 {x0 : Int64} {x1 : UInt64} {x2 : Int64} : ab_w8 [.long x0, .double x1, .long x2] = true := Eq.trans rfl rfl
theorem b_w8_67 {x0 : Int64} {x1 : UInt64} {x2 : UInt64} : ab_w8 [.long x0, .double x1, .double x2] = true := Eq.trans rfl rfl
theorem b_w8_68 {x0 : UInt64} {x1 : Int32} {x2 : Int32} : ab_w8 [.double x0, .int x1, .int x2] = true := Eq.trans rfl rfl
theorem b_w8_69 {x0 : UInt64} {x1 : Int32} {x2 : Nat} : ab_w8 [.double x0, .int x1, .ref x2] = true := Eq.trans rfl rfl
theorem b_w8_70 {x0 : UInt64} {x1 : Int32} {x2 : Int64} : ab_w8 [.double x0, .int x1, .long x2] = true := Eq.trans rfl rfl
theorem b_w8_71 {x0 : UInt64} {x1 : Int32} {x2 : UInt64} : ab_w8 [.double x0, .int x1, .double x2] = true := Eq.trans rfl rfl
theorem b_w8_72 {x0 : UInt64} {x1 : Nat} {x2 : Int32} : ab_w8 [.double x0, .ref x1, .int x2] = true := Eq.trans rfl rfl
theorem b_w8_73 {x0 : UInt64} {x1 : Nat} {x2 : Nat} : ab_w8 [.double x0, .ref x1, .ref x2] = true := Eq.trans rfl rfl
theorem b_w8_74 {x0 : UInt64} {x1 : Nat} {x2 : Int64} : ab_w8 [.double x0, .ref x1, .long x2] = true := Eq.trans rfl rfl
theorem b_w8_75 {x0 : UInt64} {x1 : Nat} {x2 : UInt64} : ab_w8 [.double x0, .ref x1, .double x2] = true := Eq.trans rfl rfl
theorem b_w8_76 {x0 : UInt64} {x1 : Int64} {x2 : Int32} : ab_w8 [.double x0, .long x1, .int x2] = true := Eq.trans rfl rfl
theorem b_w8_77 {x0 : UInt64} {x1 : Int64} {x2 : Nat} : ab_w8 [.double x0, .long x1, .ref x2] = true := Eq.trans rfl rfl
theorem b_w8_78 {x0 : UInt64} {x1 : Int64} {x2 : Int64} : ab_w8 [.double x0, .long x1, .long x2] = true := Eq.trans rfl rfl
theorem b_w8_79 {x0 : UInt64} {x1 : Int64} {x2 : UInt64} : ab_w8 [.double x0, .long x1, .double x2] = true := Eq.trans rfl rfl
theorem b_w8_80 {x0 : UInt64} {x1 : UInt64} {x2 : Int32} : ab_w8 [.double x0, .double x1, .int x2] = true := Eq.trans rfl rfl
theorem b_w8_81 {x0 : UInt64} {x1 : UInt64} {x2 : Nat} : ab_w8 [.double x0, .double x1, .ref x2] = true := Eq.trans rfl rfl
theorem b_w8_82 {x0 : UInt64} {x1 : UInt64} {x2 : Int64} : ab_w8 [.double x0, .double x1, .long x2] = true := Eq.trans rfl rfl
theorem b_w8_83 {x0 : UInt64} {x1 : UInt64} {x2 : UInt64} : ab_w8 [.double x0, .double x1, .double x2] = true := Eq.trans rfl rfl
theorem b_w8_84 {x0 : Int64} {x1 : Int64} {x2 : Int64} {x3 : Int64} : ab_w8 [.long x0, .long x1, .long x2, .long x3] = true := Eq.trans rfl rfl
theorem b_w8_85 {x0 : Int32} {x1 : Nat} {x2 : Int32} {x3 : Nat} : ab_w8 [.int x0, .ref x1, .int x2, .ref x3] = true := Eq.trans rfl rfl
theorem b_w8_86 {x0 : Int64} {x1 : Int64} {x2 : Int64} {x3 : Nat} : ab_w8 [.long x0, .long x1, .long x2, .ref x3] = true := Eq.trans rfl rfl
theorem b_w8_87 {x0 : Int32} {x1 : Int32} {x2 : Int32} {x3 : Nat} : ab_w8 [.int x0, .int x1, .int x2, .ref x3] = true := Eq.trans rfl rfl
theorem b_w8_88 {x0 : Int32} {x1 : Nat} {x2 : Nat} {x3 : Int32} : ab_w8 [.int x0, .ref x1, .ref x2, .int x3] = true := Eq.trans rfl rfl
theorem b_w8_89 {x0 : Int64} {x1 : Int32} {x2 : Nat} {x3 : Int64} : ab_w8 [.long x0, .int x1, .ref x2, .long x3] = true := Eq.trans rfl rfl
theorem b_w8_90 {x0 : Int32} {x1 : Int32} {x2 : Nat} {x3 : Nat} : ab_w8 [.int x0, .int x1, .ref x2, .ref x3] = true := Eq.trans rfl rfl
theorem b_w8_91 {x0 : Nat} {x1 : Nat} {x2 : Int32} {x3 : Nat} : ab_w8 [.ref x0, .ref x1, .int x2, .ref x3] = true := Eq.trans rfl rfl
theorem b_w8_92 {x0 : Nat} {x1 : Int32} {x2 : Nat} {x3 : Nat} : ab_w8 [.ref x0, .int x1, .ref x2, .ref x3] = true := Eq.trans rfl rfl
theorem b_w8_93 {x0 : Nat} {x1 : Int32} {x2 : Nat} {x3 : Int32} : ab_w8 [.ref x0, .int x1, .ref x2, .int x3] = true := Eq.trans rfl rfl
theorem b_O0 {fs : List Value} : ab_isO 0 (some (.inr (0, fs))) = true := rfl
theorem b_F0_0 {v0 v1 v2 v3 v4 v5 v6 v7 v8 v9 : Value} : ab_isF 0 0 (some (.inr (0, [v0, v1, v2, v3, v4, v5, v6, v7, v8, v9]))) = true := rfl
theorem b_V0_0 {v0 v1 v2 v3 v4 v5 v6 v7 v8 v9 : Value} : ab_fv 0 (some (.inr (0, [v0, v1, v2, v3, v4, v5, v6, v7, v8, v9]))) = v0 := rfl
theorem b_S0_0 {v0 v1 v2 v3 v4 v5 v6 v7 v8 v9 : Value} {v : Value} : ab_sf 0 v (some (.inr (0, [v0, v1, v2, v3, v4, v5, v6, v7, v8, v9]))) = some (.inr (0, [v, v1, v2, v3, v4, v5, v6, v7, v8, v9])) := rfl
theorem b_F0_1 {v0 v1 v2 v3 v4 v5 v6 v7 v8 v9 : Value} : ab_isF 0 1 (some (.inr (0, [v0, v1, v2, v3, v4, v5, v6, v7, v8, v9]))) = true := rfl
theorem b_V0_1 {v0 v1 v2 v3 v4 v5 v6 v7 v8 v9 : Value} : ab_fv 1 (some (.inr (0, [v0, v1, v2, v3, v4, v5, v6, v7, v8, v9]))) = v1 := rfl
theorem b_S0_1 {v0 v1 v2 v3 v4 v5 v6 v7 v8 v9 : Value} {v : Value} : ab_sf 1 v (some (.inr (0, [v0, v1, v2, v3, v4, v5, v6, v7, v8, v9]))) = some (.inr (0, [v0, v, v2, v3, v4, v5, v6, v7, v8, v9])) := rfl
theorem b_F0_2 {v0 v1 v2 v3 v4 v5 v6 v7 v8 v9 : Value} : ab_isF 0 2 (some (.inr (0, [v0, v1, v2, v3, v4, v5, v6, v7, v8, v9]))) = true := rfl
theorem b_V0_2 {v0 v1 v2 v3 v4 v5 v6 v7 v8 v9 : Value} : ab_fv 2 (some (.inr (0, [v0, v1, v2, v3, v4, v5, v6, v7, v8, v9]))) = v2 := rfl
theorem b_S0_2 {v0 v1 v2 v3 v4 v5 v6 v7 v8 v9 : Value} {v : Value} : ab_sf 2 v (some (.inr (0, [v0, v1, v2, v3, v4, v5, v6, v7, v8, v9]))) = some (.inr (0, [v0, v1, v, v3, v4, v5, v6, v7, v8, v9])) := rfl
theorem b_F0_3 {v0 v1 v2 v3 v4 v5 v6 v7 v8 v9 : Value} : ab_isF 0 3 (some (.inr (0, [v0, v1, v2, v3, v4, v5, v6, v7, v8, v9]))) = true := rfl
theorem b_V0_3 {v0 v1 v2 v3 v4 v5 v6 v7 v8 v9 : Value} : ab_fv 3 (some (.inr (0, [v0, v1, v2, v3, v4, v5, v6, v7, v8, v9]))) = v3 := rfl
theorem b_S0_3 {v0 v1 v2 v3 v4 v5 v6 v7 v8 v9 : Value} {v : Value} : ab_sf 3 v (some (.inr (0, [v0, v1, v2, v3, v4, v5, v6, v7, v8, v9]))) = some (.inr (0, [v0, v1, v2, v, v4, v5, v6, v7, v8, v9])) := rfl
theorem b_F0_4 {v0 v1 v2 v3 v4 v5 v6 v7 v8 v9 : Value} : ab_isF 0 4 (some (.inr (0, [v0, v1, v2, v3, v4, v5, v6, v7, v8, v9]))) = true := rfl
theorem b_V0_4 {v0 v1 v2 v3 v4 v5 v6 v7 v8 v9 : Value} : ab_fv 4 (some (.inr (0, [v0, v1, v2, v3, v4, v5, v6, v7, v8, v9]))) = v4 := rfl
theorem b_S0_4 {v0 v1 v2 v3 v4 v5 v6 v7 v8 v9 : Value} {v : Value} : ab_sf 4 v (some (.inr (0, [v0, v1, v2, v3, v4, v5, v6, v7, v8, v9]))) = some (.inr (0, [v0, v1, v2, v3, v, v5, v6, v7, v8, v9])) := rfl
theorem b_F0_5 {v0 v1 v2 v3 v4 v5 v6 v7 v8 v9 : Value} : ab_isF 0 5 (some (.inr (0, [v0, v1, v2, v3, v4, v5, v6, v7, v8, v9]))) = true := rfl
theorem b_V0_5 {v0 v1 v2 v3 v4 v5 v6 v7 v8 v9 : Value} : ab_fv 5 (some (.inr (0, [v0, v1, v2, v3, v4, v5, v6, v7, v8, v9]))) = v5 := rfl
theorem b_S0_5 {v0 v1 v2 v3 v4 v5 v6 v7 v8 v9 : Value} {v : Value} : ab_sf 5 v (some (.inr (0, [v0, v1, v2, v3, v4, v5, v6, v7, v8, v9]))) = some (.inr (0, [v0, v1, v2, v3, v4, v, v6, v7, v8, v9])) := rfl
theorem b_F0_6 {v0 v1 v2 v3 v4 v5 v6 v7 v8 v9 : Value} : ab_isF 0 6 (some (.inr (0, [v0, v1, v2, v3, v4, v5, v6, v7, v8, v9]))) = true := rfl
theorem b_V0_6 {v0 v1 v2 v3 v4 v5 v6 v7 v8 v9 : Value} : ab_fv 6 (some (.inr (0, [v0, v1, v2, v3, v4, v5, v6, v7, v8, v9]))) = v6 := rfl
theorem b_S0_6 {v0 v1 v2 v3 v4 v5 v6 v7 v8 v9 : Value} {v : Value} : ab_sf 6 v (some (.inr (0, [v0, v1, v2, v3, v4, v5, v6, v7, v8, v9]))) = some (.inr (0, [v0, v1, v2, v3, v4, v5, v, v7, v8, v9])) := rfl
theorem b_F0_7 {v0 v1 v2 v3 v4 v5 v6 v7 v8 v9 : Value} : ab_isF 0 7 (some (.inr (0, [v0, v1, v2, v3, v4, v5, v6, v7, v8, v9]))) = true := rfl
theorem b_V0_7 {v0 v1 v2 v3 v4 v5 v6 v7 v8 v9 : Value} : ab_fv 7 (some (.inr (0, [v0, v1, v2, v3, v4, v5, v6, v7, v8, v9]))) = v7 := rfl
theorem b_S0_7 {v0 v1 v2 v3 v4 v5 v6 v7 v8 v9 : Value} {v : Value} : ab_sf 7 v (some (.inr (0, [v0, v1, v2, v3, v4, v5, v6, v7, v8, v9]))) = some (.inr (0, [v0, v1, v2, v3, v4, v5, v6, v, v8, v9])) := rfl
theorem b_F0_8 {v0 v1 v2 v3 v4 v5 v6 v7 v8 v9 : Value} : ab_isF 0 8 (some (.inr (0, [v0, v1, v2, v3, v4, v5, v6, v7, v8, v9]))) = true := rfl
theorem b_V0_8 {v0 v1 v2 v3 v4 v5 v6 v7 v8 v9 : Value} : ab_fv 8 (some (.inr (0, [v0, v1, v2, v3, v4, v5, v6, v7, v8, v9]))) = v8 := rfl
theorem b_S0_8 {v0 v1 v2 v3 v4 v5 v6 v7 v8 v9 : Value} {v : Value} : ab_sf 8 v (some (.inr (0, [v0, v1, v2, v3, v4, v5, v6, v7, v8, v9]))) = some (.inr (0, [v0, v1, v2, v3, v4, v5, v6, v7, v, v9])) := rfl
theorem b_F0_9 {v0 v1 v2 v3 v4 v5 v6 v7 v8 v9 : Value} : ab_isF 0 9 (some (.inr (0, [v0, v1, v2, v3, v4, v5, v6, v7, v8, v9]))) = true := rfl
theorem b_V0_9 {v0 v1 v2 v3 v4 v5 v6 v7 v8 v9 : Value} : ab_fv 9 (some (.inr (0, [v0, v1, v2, v3, v4, v5, v6, v7, v8, v9]))) = v9 := rfl
theorem b_S0_9 {v0 v1 v2 v3 v4 v5 v6 v7 v8 v9 : Value} {v : Value} : ab_sf 9 v (some (.inr (0, [v0, v1, v2, v3, v4, v5, v6, v7, v8, v9]))) = some (.inr (0, [v0, v1, v2, v3, v4, v5, v6, v7, v8, v])) := rfl
theorem b_O1 {fs : List Value} : ab_isO 1 (some (.inr (1, fs))) = true := rfl
theorem b_F1_0 {v0 v1 v2 v3 v4 v5 v6 v7 : Value} : ab_isF 1 0 (some (.inr (1, [v0, v1, v2, v3, v4, v5, v6, v7]))) = true := rfl
theorem b_V1_0 {v0 v1 v2 v3 v4 v5 v6 v7 : Value} : ab_fv 0 (some (.inr (1, [v0, v1, v2, v3, v4, v5, v6, v7]))) = v0 := rfl
theorem b_S1_0 {v0 v1 v2 v3 v4 v5 v6 v7 : Value} {v : Value} : ab_sf 0 v (some (.inr (1, [v0, v1, v2, v3, v4, v5, v6, v7]))) = some (.inr (1, [v, v1, v2, v3, v4, v5, v6, v7])) := rfl
theorem b_F1_1 {v0 v1 v2 v3 v4 v5 v6 v7 : Value} : ab_isF 1 1 (some (.inr (1, [v0, v1, v2, v3, v4, v5, v6, v7]))) = true := rfl
theorem b_V1_1 {v0 v1 v2 v3 v4 v5 v6 v7 : Value} : ab_fv 1 (some (.inr (1, [v0, v1, v2, v3, v4, v5, v6, v7]))) = v1 := rfl
theorem b_S1_1 {v0 v1 v2 v3 v4 v5 v6 v7 : Value} {v : Value} : ab_sf 1 v (some (.inr (1, [v0, v1, v2, v3, v4, v5, v6, v7]))) = some (.inr (1, [v0, v, v2, v3, v4, v5, v6, v7])) := rfl
theorem b_F1_2 {v0 v1 v2 v3 v4 v5 v6 v7 : Value} : ab_isF 1 2 (some (.inr (1, [v0, v1, v2, v3, v4, v5, v6, v7]))) = true := rfl
theorem b_V1_2 {v0 v1 v2 v3 v4 v5 v6 v7 : Value} : ab_fv 2 (some (.inr (1, [v0, v1, v2, v3, v4, v5, v6, v7]))) = v2 := rfl
theorem b_S1_2 {v0 v1 v2 v3 v4 v5 v6 v7 : Value} {v : Value} : ab_sf 2 v (some (.inr (1, [v0, v1, v2, v3, v4, v5, v6, v7]))) = some (.inr (1, [v0, v1, v, v3, v4, v5, v6, v7])) := rfl
theorem b_F1_3 {v0 v1 v2 v3 v4 v5 v6 v7 : Value} : ab_isF 1 3 (some (.inr (1, [v0, v1, v2, v3, v4, v5, v6, v7]))) = true := rfl
theorem b_V1_3 {v0 v1 v2 v3 v4 v5 v6 v7 : Value} : ab_fv 3 (some (.inr (1, [v0, v1, v2, v3, v4, v5, v6, v7]))) = v3 := rfl
theorem b_S1_3 {v0 v1 v2 v3 v4 v5 v6 v7 : Value} {v : Value} : ab_sf 3 v (some (.inr (1, [v0, v1, v2, v3, v4, v5, v6, v7]))) = some (.inr (1, [v0, v1, v2, v, v4, v5, v6, v7])) := rfl
theorem b_F1_4 {v0 v1 v2 v3 v4 v5 v6 v7 : Value} : ab_isF 1 4 (some (.inr (1, [v0, v1, v2, v3, v4, v5, v6, v7]))) = true := rfl
theorem b_V1_4 {v0 v1 v2 v3 v4 v5 v6 v7 : Value} : ab_fv 4 (some (.inr (1, [v0, v1, v2, v3, v4, v5, v6, v7]))) = v4 := rfl
theorem b_S1_4 {v0 v1 v2 v3 v4 v5 v6 v7 : Value} {v : Value} : ab_sf 4 v (some (.inr (1, [v0, v1, v2, v3, v4, v5, v6, v7]))) = some (.inr (1, [v0, v1, v2, v3, v, v5, v6, v7])) := rfl
theorem b_F1_5 {v0 v1 v2 v3 v4 v5 v6 v7 : Value} : ab_isF 1 5 (some (.inr (1, [v0, v1, v2, v3, v4, v5, v6, v7]))) = true := rfl
theorem b_V1_5 {v0 v1 v2 v3 v4 v5 v6 v7 : Value} : ab_fv 5 (some (.inr (1, [v0, v1, v2, v3, v4, v5, v6, v7]))) = v5 := rfl
theorem b_S1_5 {v0 v1 v2 v3 v4 v5 v6 v7 : Value} {v : Value} : ab_sf 5 v (some (.inr (1, [v0, v1, v2, v3, v4, v5, v6, v7]))) = some (.inr (1, [v0, v1, v2, v3, v4, v, v6, v7])) := rfl
theorem b_F1_6 {v0 v1 v2 v3 v4 v5 v6 v7 : Value} : ab_isF 1 6 (some (.inr (1, [v0, v1, v2, v3, v4, v5, v6, v7]))) = true := rfl
theorem b_V1_6 {v0 v1 v2 v3 v4 v5 v6 v7 : Value} : ab_fv 6 (some (.inr (1, [v0, v1, v2, v3, v4, v5, v6, v7]))) = v6 := rfl
theorem b_S1_6 {v0 v1 v2 v3 v4 v5 v6 v7 : Value} {v : Value} : ab_sf 6 v (some (.inr (1, [v0, v1, v2, v3, v4, v5, v6, v7]))) = some (.inr (1, [v0, v1, v2, v3, v4, v5, v, v7])) := rfl
theorem b_F1_7 {v0 v1 v2 v3 v4 v5 v6 v7 : Value} : ab_isF 1 7 (some (.inr (1, [v0, v1, v2, v3, v4, v5, v6, v7]))) = true := rfl
theorem b_V1_7 {v0 v1 v2 v3 v4 v5 v6 v7 : Value} : ab_fv 7 (some (.inr (1, [v0, v1, v2, v3, v4, v5, v6, v7]))) = v7 := rfl
theorem b_S1_7 {v0 v1 v2 v3 v4 v5 v6 v7 : Value} {v : Value} : ab_sf 7 v (some (.inr (1, [v0, v1, v2, v3, v4, v5, v6, v7]))) = some (.inr (1, [v0, v1, v2, v3, v4, v5, v6, v])) := rfl
theorem b_O2 {fs : List Value} : ab_isO 2 (some (.inr (2, fs))) = true := rfl
theorem b_F2_0 {v0 v1 v2 : Value} : ab_isF 2 0 (some (.inr (2, [v0, v1, v2]))) = true := rfl
theorem b_V2_0 {v0 v1 v2 : Value} : ab_fv 0 (some (.inr (2, [v0, v1, v2]))) = v0 := rfl
theorem b_S2_0 {v0 v1 v2 : Value} {v : Value} : ab_sf 0 v (some (.inr (2, [v0, v1, v2]))) = some (.inr (2, [v, v1, v2])) := rfl
theorem b_F2_1 {v0 v1 v2 : Value} : ab_isF 2 1 (some (.inr (2, [v0, v1, v2]))) = true := rfl
theorem b_V2_1 {v0 v1 v2 : Value} : ab_fv 1 (some (.inr (2, [v0, v1, v2]))) = v1 := rfl
theorem b_S2_1 {v0 v1 v2 : Value} {v : Value} : ab_sf 1 v (some (.inr (2, [v0, v1, v2]))) = some (.inr (2, [v0, v, v2])) := rfl
theorem b_F2_2 {v0 v1 v2 : Value} : ab_isF 2 2 (some (.inr (2, [v0, v1, v2]))) = true := rfl
theorem b_V2_2 {v0 v1 v2 : Value} : ab_fv 2 (some (.inr (2, [v0, v1, v2]))) = v2 := rfl
theorem b_S2_2 {v0 v1 v2 : Value} {v : Value} : ab_sf 2 v (some (.inr (2, [v0, v1, v2]))) = some (.inr (2, [v0, v1, v])) := rfl
theorem b_O3 {fs : List Value} : ab_isO 3 (some (.inr (3, fs))) = true := rfl
theorem b_F3_0 {v0 v1 v2 v3 : Value} : ab_isF 3 0 (some (.inr (3, [v0, v1, v2, v3]))) = true := rfl
theorem b_V3_0 {v0 v1 v2 v3 : Value} : ab_fv 0 (some (.inr (3, [v0, v1, v2, v3]))) = v0 := rfl
theorem b_S3_0 {v0 v1 v2 v3 : Value} {v : Value} : ab_sf 0 v (some (.inr (3, [v0, v1, v2, v3]))) = some (.inr (3, [v, v1, v2, v3])) := rfl
theorem b_F3_1 {v0 v1 v2 v3 : Value} : ab_isF 3 1 (some (.inr (3, [v0, v1, v2, v3]))) = true := rfl
theorem b_V3_1 {v0 v1 v2 v3 : Value} : ab_fv 1 (some (.inr (3, [v0, v1, v2, v3]))) = v1 := rfl
theorem b_S3_1 {v0 v1 v2 v3 : Value} {v : Value} : ab_sf 1 v (some (.inr (3, [v0, v1, v2, v3]))) = some (.inr (3, [v0, v, v2, v3])) := rfl
theorem b_F3_2 {v0 v1 v2 v3 : Value} : ab_isF 3 2 (some (.inr (3, [v0, v1, v2, v3]))) = true := rfl
theorem b_V3_2 {v0 v1 v2 v3 : Value} : ab_fv 2 (some (.inr (3, [v0, v1, v2, v3]))) = v2 := rfl
theorem b_S3_2 {v0 v1 v2 v3 : Value} {v : Value} : ab_sf 2 v (some (.inr (3, [v0, v1, v2, v3]))) = some (.inr (3, [v0, v1, v, v3])) := rfl
theorem b_F3_3 {v0 v1 v2 v3 : Value} : ab_isF 3 3 (some (.inr (3, [v0, v1, v2, v3]))) = true := rfl
theorem b_V3_3 {v0 v1 v2 v3 : Value} : ab_fv 3 (some (.inr (3, [v0, v1, v2, v3]))) = v3 := rfl
theorem b_S3_3 {v0 v1 v2 v3 : Value} {v : Value} : ab_sf 3 v (some (.inr (3, [v0, v1, v2, v3]))) = some (.inr (3, [v0, v1, v2, v])) := rfl
theorem b_O4 {fs : List Value} : ab_isO 4 (some (.inr (4, fs))) = true := rfl
theorem b_F4_0 {v0 v1 v2 v3 v4 v5 v6 v7 v8 v9 v10 : Value} : ab_isF 4 0 (some (.inr (4, [v0, v1, v2, v3, v4, v5, v6, v7, v8, v9, v10]))) = true := rfl
theorem b_V4_0 {v0 v1 v2 v3 v4 v5 v6 v7 v8 v9 v10 : Value} : ab_fv 0 (some (.inr (4, [v0, v1, v2, v3, v4, v5, v6, v7, v8, v9, v10]))) = v0 := rfl
theorem b_S4_0 {v0 v1 v2 v3 v4 v5 v6 v7 v8 v9 v10 : Value} {v : Value} : ab_sf 0 v (some (.inr (4, [v0, v1, v2, v3, v4, v5, v6, v7, v8, v9, v10]))) = some (.inr (4, [v, v1, v2, v3, v4, v5, v6, v7, v8, v9, v10])) := rfl
theorem b_F4_1 {v0 v1 v2 v3 v4 v5 v6 v7 v8 v9 v10 : Value} : ab_isF 4 1 (some (.inr (4, [v0, v1, v2, v3, v4, v5, v6, v7, v8, v9, v10]))) = true := rfl
theorem b_V4_1 {v0 v1 v2 v3 v4 v5 v6 v7 v8 v9 v10 : Value} : ab_fv 1 (some (.inr (4, [v0, v1, v2, v3, v4, v5, v6, v7, v8, v9, v10]))) = v1 := rfl
theorem b_S4_1 {v0 v1 v2 v3 v4 v5 v6 v7 v8 v9 v10 : Value} {v : Value} : ab_sf 1 v (some (.inr (4, [v0, v1, v2, v3, v4, v5, v6, v7, v8, v9, v10]))) = some (.inr (4, [v0, v, v2, v3, v4, v5, v6, v7, v8, v9, v10])) := rfl
theorem b_F4_2 {v0 v1 v2 v3 v4 v5 v6 v7 v8 v9 v10 : Value} : ab_isF 4 2 (some (.inr (4, [v0, v1, v2, v3, v4, v5, v6, v7, v8, v9, v10]))) = true := rfl
theorem b_V4_2 {v0 v1 v2 v3 v4 v5 v6 v7 v8 v9 v10 : Value} : ab_fv 2 (some (.inr (4, [v0, v1, v2, v3, v4, v5, v6, v7, v8, v9, v10]))) = v2 := rfl
theorem b_S4_2 {v0 v1 v2 v3 v4 v5 v6 v7 v8 v9 v10 : Value} {v : Value} : ab_sf 2 v (some (.inr (4, [v0, v1, v2, v3, v4, v5, v6, v7, v8, v9, v10]))) = some (.inr (4, [v0, v1, v, v3, v4, v5, v6, v7, v8, v9, v10])) := rfl
theorem b_F4_3 {v0 v1 v2 v3 v4 v5 v6 v7 v8 v9 v10 : Value} : ab_isF 4 3 (some (.inr (4, [v0, v1, v2, v3, v4, v5, v6, v7, v8, v9, v10]))) = true := rfl
theorem b_V4_3 {v0 v1 v2 v3 v4 v5 v6 v7 v8 v9 v10 : Value} : ab_fv 3 (some (.inr (4, [v0, v1, v2, v3, v4, v5, v6, v7, v8, v9, v10]))) = v3 := rfl
theorem b_S4_3 {v0 v1 v2 v3 v4 v5 v6 v7 v8 v9 v10 : Value} {v : Value} : ab_sf 3 v (some (.inr (4, [v0, v1, v2, v3, v4, v5, v6, v7, v8, v9, v10]))) = some (.inr (4, [v0, v1, v2, v, v4, v5, v6, v7, v8, v9, v10])) := rfl
theorem b_F4_4 {v0 v1 v2 v3 v4 v5 v6 v7 v8 v9 v10 : Value} : ab_isF 4 4 (some (.inr (4, [v0, v1, v2, v3, v4, v5, v6, v7, v8, v9, v10]))) = true := rfl
theorem b_V4_4 {v0 v1 v2 v3 v4 v5 v6 v7 v8 v9 v10 : Value} : ab_fv 4 (some (.inr (4, [v0, v1, v2, v3, v4, v5, v6, v7, v8, v9, v10]))) = v4 := rfl
theorem b_S4_4 {v0 v1 v2 v3 v4 v5 v6 v7 v8 v9 v10 : Value} {v : Value} : ab_sf 4 v (some (.inr (4, [v0, v1, v2, v3, v4, v5, v6, v7, v8, v9, v10]))) = some (.inr (4, [v0, v1, v2, v3, v, v5, v6, v7, v8, v9, v10])) := rfl
theorem b_F4_5 {v0 v1 v2 v3 v4 v5 v6 v7 v8 v9 v10 : Value} : ab_isF 4 5 (some (.inr (4, [v0, v1, v2, v3, v4, v5, v6, v7, v8, v9, v10]))) = true := rfl
theorem b_V4_5 {v0 v1 v2 v3 v4 v5 v6 v7 v8 v9 v10 : Value} : ab_fv 5 (some (.inr (4, [v0, v1, v2, v3, v4, v5, v6, v7, v8, v9, v10]))) = v5 := rfl
theorem b_S4_5 {v0 v1 v2 v3 v4 v5 v6 v7 v8 v9 v10 : Value} {v : Value} : ab_sf 5 v (some (.inr (4, [v0, v1, v2, v3, v4, v5, v6, v7, v8, v9, v10]))) = some (.inr (4, [v0, v1, v2, v3, v4, v, v6, v7, v8, v9, v10])) := rfl
theorem b_F4_6 {v0 v1 v2 v3 v4 v5 v6 v7 v8 v9 v10 : Value} : ab_isF 4 6 (some (.inr (4, [v0, v1, v2, v3, v4, v5, v6, v7, v8, v9, v10]))) = true := rfl
theorem b_V4_6 {v0 v1 v2 v3 v4 v5 v6 v7 v8 v9 v10 : Value} : ab_fv 6 (some (.inr (4, [v0, v1, v2, v3, v4, v5, v6, v7, v8, v9, v10]))) = v6 := rfl
theorem b_S4_6 {v0 v1 v2 v3 v4 v5 v6 v7 v8 v9 v10 : Value} {v : Value} : ab_sf 6 v (some (.inr (4, [v0, v1, v2, v3, v4, v5, v6, v7, v8, v9, v10]))) = some (.inr (4, [v0, v1, v2, v3, v4, v5, v, v7, v8, v9, v10])) := rfl
theorem b_F4_7 {v0 v1 v2 v3 v4 v5 v6 v7 v8 v9 v10 : Value} : ab_isF 4 7 (some (.inr (4, [v0, v1, v2, v3, v4, v5, v6, v7, v8, v9, v10]))) = true := rfl
theorem b_V4_7 {v0 v1 v2 v3 v4 v5 v6 v7 v8 v9 v10 : Value} : ab_fv 7 (some (.inr (4, [v0, v1, v2, v3, v4, v5, v6, v7, v8, v9, v10]))) = v7 := rfl
theorem b_S4_7 {v0 v1 v2 v3 v4 v5 v6 v7 v8 v9 v10 : Value} {v : Value} : ab_sf 7 v (some (.inr (4, [v0, v1, v2, v3, v4, v5, v6, v7, v8, v9, v10]))) = some (.inr (4, [v0, v1, v2, v3, v4, v5, v6, v, v8, v9, v10])) := rfl
theorem b_F4_8 {v0 v1 v2 v3 v4 v5 v6 v7 v8 v9 v10 : Value} : ab_isF 4 8 (some (.inr (4, [v0, v1, v2, v3, v4, v5, v6, v7, v8, v9, v10]))) = true := rfl
theorem b_V4_8 {v0 v1 v2 v3 v4 v5 v6 v7 v8 v9 v10 : Value} : ab_fv 8 (some (.inr (4, [v0, v1, v2, v3, v4, v5, v6, v7, v8, v9, v10]))) = v8 := rfl
theorem b_S4_8 {v0 v1 v2 v3 v4 v5 v6 v7 v8 v9 v10 : Value} {v : Value} : ab_sf 8 v (some (.inr (4, [v0, v1, v2, v3, v4, v5, v6, v7, v8, v9, v10]))) = some (.inr (4, [v0, v1, v2, v3, v4, v5, v6, v7, v, v9, v10])) := rfl
theorem b_F4_9 {v0 v1 v2 v3 v4 v5 v6 v7 v8 v9 v10 : Value} : ab_isF 4 9 (some (.inr (4, [v0, v1, v2, v3, v4, v5, v6, v7, v8, v9, v10]))) = true := rfl
theorem b_V4_9 {v0 v1 v2 v3 v4 v5 v6 v7 v8 v9 v10 : Value} : ab_fv 9 (some (.inr (4, [v0, v1, v2, v3, v4, v5, v6, v7, v8, v9, v10]))) = v9 := rfl
theorem b_S4_9 {v0 v1 v2 v3 v4 v5 v6 v7 v8 v9 v10 : Value} {v : Value} : ab_sf 9 v (some (.inr (4, [v0, v1, v2, v3, v4, v5, v6, v7, v8, v9, v10]))) = some (.inr (4, [v0, v1, v2, v3, v4, v5, v6, v7, v8, v, v10])) := rfl
theorem b_F4_10 {v0 v1 v2 v3 v4 v5 v6 v7 v8 v9 v10 : Value} : ab_isF 4 10 (some (.inr (4, [v0, v1, v2, v3, v4, v5, v6, v7, v8, v9, v10]))) = true := rfl
theorem b_V4_10 {v0 v1 v2 v3 v4 v5 v6 v7 v8 v9 v10 : Value} : ab_fv 10 (some (.inr (4, [v0, v1, v2, v3, v4, v5, v6, v7, v8, v9, v10]))) = v10 := rfl
theorem b_S4_10 {v0 v1 v2 v3 v4 v5 v6 v7 v8 v9 v10 : Value} {v : Value} : ab_sf 10 v (some (.inr (4, [v0, v1, v2, v3, v4, v5, v6, v7, v8, v9, v10]))) = some (.inr (4, [v0, v1, v2, v3, v4, v5, v6, v7, v8, v9, v])) := rfl
theorem b_O5 {fs : List Value} : ab_isO 5 (some (.inr (5, fs))) = true := rfl
theorem b_F5_0 {v0 v1 : Value} : ab_isF 5 0 (some (.inr (5, [v0, v1]))) = true := rfl
theorem b_V5_0 {v0 v1 : Value} : ab_fv 0 (some (.inr (5, [v0, v1]))) = v0 := rfl
theorem b_S5_0 {v0 v1 : Value} {v : Value} : ab_sf 0 v (some (.inr (5, [v0, v1]))) = some (.inr (5, [v, v1])) := rfl
theorem b_F5_1 {v0 v1 : Value} : ab_isF 5 1 (some (.inr (5, [v0, v1]))) = true := rfl
theorem b_V5_1 {v0 v1 : Value} : ab_fv 1 (some (.inr (5, [v0, v1]))) = v1 := rfl
theorem b_S5_1 {v0 v1 : Value} {v : Value} : ab_sf 1 v (some (.inr (5, [v0, v1]))) = some (.inr (5, [v0, v])) := rfl
theorem b_O6 {fs : List Value} : ab_isO 6 (some (.inr (6, fs))) = true := rfl
theorem b_F6_0 {v0 v1 v2 v3 v4 : Value} : ab_isF 6 0 (some (.inr (6, [v0, v1, v2, v3, v4]))) = true := rfl
theorem b_V6_0 {v0 v1 v2 v3 v4 : Value} : ab_fv 0 (some (.inr (6, [v0, v1, v2, v3, v4]))) = v0 := rfl
theorem b_S6_0 {v0 v1 v2 v3 v4 : Value} {v : Value} : ab_sf 0 v (some (.inr (6, [v0, v1, v2, v3, v4]))) = some (.inr (6, [v, v1, v2, v3, v4])) := rfl
theorem b_F6_1 {v0 v1 v2 v3 v4 : Value} : ab_isF 6 1 (some (.inr (6, [v0, v1, v2, v3, v4]))) = true := rfl
theorem b_V6_1 {v0 v1 v2 v3 v4 : Value} : ab_fv 1 (some (.inr (6, [v0, v1, v2, v3, v4]))) = v1 := rfl
theorem b_S6_1 {v0 v1 v2 v3 v4 : Value} {v : Value} : ab_sf 1 v (some (.inr (6, [v0, v1, v2, v3, v4]))) = some (.inr (6, [v0, v, v2, v3, v4])) := rfl
theorem b_F6_2 {v0 v1 v2 v3 v4 : Value} : ab_isF 6 2 (some (.inr (6, [v0, v1, v2, v3, v4]))) = true := rfl
theorem b_V6_2 {v0 v1 v2 v3 v4 : Value} : ab_fv 2 (some (.inr (6, [v0, v1, v2, v3, v4]))) = v2 := rfl
theorem b_S6_2 {v0 v1 v2 v3 v4 : Value} {v : Value} : ab_sf 2 v (some (.inr (6, [v0, v1, v2, v3, v4]))) = some (.inr (6, [v0, v1, v, v3, v4])) := rfl
theorem b_F6_3 {v0 v1 v2 v3 v4 : Value} : ab_isF 6 3 (some (.inr (6, [v0, v1, v2, v3, v4]))) = true := rfl
theorem b_V6_3 {v0 v1 v2 v3 v4 : Value} : ab_fv 3 (some (.inr (6, [v0, v1, v2, v3, v4]))) = v3 := rfl
theorem b_S6_3 {v0 v1 v2 v3 v4 : Value} {v : Value} : ab_sf 3 v (some (.inr (6, [v0, v1, v2, v3, v4]))) = some (.inr (6, [v0, v1, v2, v, v4])) := rfl
theorem b_F6_4 {v0 v1 v2 v3 v4 : Value} : ab_isF 6 4 (some (.inr (6, [v0, v1, v2, v3, v4]))) = true := rfl
theorem b_V6_4 {v0 v1 v2 v3 v4 : Value} : ab_fv 4 (some (.inr (6, [v0, v1, v2, v3, v4]))) = v4 := rfl
theorem b_S6_4 {v0 v1 v2 v3 v4 : Value} {v : Value} : ab_sf 4 v (some (.inr (6, [v0, v1, v2, v3, v4]))) = some (.inr (6, [v0, v1, v2, v3, v])) := rfl
theorem b_inI {i : Int32} {n : Nat} {f : Nat → Int32} : ab_inI i (some (.inl (n, .inl f))) = ab_inb i n := rfl
theorem b_inJ {i : Int32} {n : Nat} {f : Nat → UInt32} : ab_inI i (some (.inl (n, .inr (.inr (.inl f))))) = ab_inb i n := rfl
theorem b_aI {k n : Nat} {f : Nat → Int32} : ab_aI k (some (.inl (n, .inl f))) = f k := rfl
theorem b_aJ {k n : Nat} {f : Nat → UInt32} : ab_aI k (some (.inl (n, .inr (.inr (.inl f))))) = (f k).toInt32 := rfl
theorem b_inW {i : Int32} {n : Nat} {f : Nat → Int32} : ab_inW i (some (.inl (n, .inl f))) = ab_inb i n := rfl
theorem b_sI {k n : Nat} {x : Int32} {f : Nat → Int32} : ab_sI k x (some (.inl (n, .inl f))) = some (.inl (n, .inl (ab_up f k x))) := rfl
theorem b_inL {i : Int32} {n : Nat} {f : Nat → Int64} : ab_inL i (some (.inl (n, .inr (.inl f)))) = ab_inb i n := rfl
theorem b_aL {k n : Nat} {f : Nat → Int64} : ab_aL k (some (.inl (n, .inr (.inl f)))) = f k := rfl
theorem b_sL {k n : Nat} {x : Int64} {f : Nat → Int64} : ab_sL k x (some (.inl (n, .inr (.inl f)))) = some (.inl (n, .inr (.inl (ab_up f k x)))) := rfl
theorem b_inQ {i : Int32} {n : Nat} {f : Nat → Option Nat} : ab_inQ i (some (.inl (n, .inr (.inr (.inr (.inr f)))))) = (ab_inb i n && (f i.toNatClampNeg).isSome) := rfl
theorem b_aQ {k n : Nat} {f : Nat → Option Nat} : ab_aQ k (some (.inl (n, .inr (.inr (.inr (.inr f)))))) = (f k).getD 0 := rfl
theorem b_inP {i : Int32} {n : Nat} {f : Nat → Option Nat} : ab_inP i (some (.inl (n, .inr (.inr (.inr (.inr f)))))) = ab_inb i n := rfl
theorem b_sQ {k n x : Nat} {f : Nat → Option Nat} : ab_sQ k x (some (.inl (n, .inr (.inr (.inr (.inr f)))))) = some (.inl (n, .inr (.inr (.inr (.inr (ab_up f k (some x))))))) := rfl
theorem b_isA {n : Nat} {f : Nat → Int32} : ab_isA (some (.inl (n, .inl f))) = true := rfl
theorem b_isA2 {n : Nat} {f : Nat → UInt32} : ab_isA (some (.inl (n, .inr (.inr (.inl f))))) = true := rfl
theorem b_isA3 {n : Nat} {f : Nat → Option Nat} : ab_isA (some (.inl (n, .inr (.inr (.inr (.inr f)))))) = true := rfl
theorem b_ln {n : Nat} {x : (Nat → Int32) ⊕ (Nat → Int64) ⊕ (Nat → UInt32) ⊕ (Nat → UInt64) ⊕ (Nat → Option Nat)} : ab_ln (some (.inl (n, x))) = n := rfl
theorem b_sC {sp dp n n0 n1 : Nat} {f h : Nat → Int32} : ab_sC sp dp n (some (.inl (n0, .inl f))) (some (.inl (n1, .inl h))) = some (.inl (n1, .inl (ab_cpy f h sp dp n))) := rfl
theorem b_inb {j n : Nat} (h : j < n) (hn : n < 2147483648) : ab_inb (nI j) n = true := decide_eq_true (vp_in_nI h hn)
theorem b_inb_t {j n : Nat} (h : j < n) (hn : n < 2147483648) : ab_inb (nI j) n = true := b_inb h hn
theorem b_neg0 {n : Nat} (h : n < 2147483648) : (nI n < 0) = False := eq_false (nI_pos h)
theorem b_nng0 {n : Nat} (h : n < 2147483648) : (0 ≤ nI n) = True := eq_true (nI_pos' h)
theorem b_cl {n : Nat} (h : n < 2147483648) : (nI n).toNatClampNeg = n := nI_clamp h
theorem b_inC {sp dp n n0 n1 : Nat} {f h : Nat → Int32} (h1 : sp + n ≤ n0) (h2 : dp + n ≤ n1) (h3 : n0 < 2147483648) (h4 : n1 < 2147483648) : ab_inC (nI sp) (nI dp) (nI n) (some (.inl (n0, .inl f))) (some (.inl (n1, .inl h))) = true := by
  unfold ab_inC
  rw [nI_clamp (by omega), nI_clamp (by omega), nI_clamp (by omega)]
  simp only [nI_pos (show sp < 2 ^ 31 by omega), nI_pos (show dp < 2 ^ 31 by omega), nI_pos (show n < 2 ^ 31 by omega), not_false_eq_true, decide_true, h1, h2, Bool.and_self]
theorem b_us {α : Type} {f : Nat → α} {k : Nat} {x : α} : ab_up f k x k = x := if_pos rfl
theorem b_un {α : Type} {f : Nat → α} {k j : Nat} {x : α} (h : j ≠ k) : ab_up f k x j = f j := if_neg h
theorem b_uu {α : Type} {f : Nat → α} {k : Nat} {x y : α} : ab_up (ab_up f k x) k y = ab_up f k y := by
  funext j
  unfold ab_up
  by_cases h : j = k
  · rw [if_pos h, if_pos h]
  · rw [if_neg h, if_neg h, if_neg h]
theorem b_ui {α : Type} {f : Nat → α} {k : Nat} {x : α} (h : f k = x) : ab_up f k x = f := by
  funext j
  unfold ab_up
  by_cases e : j = k
  · rw [if_pos e, e, h]
  · rw [if_neg e]
theorem b_uc {α : Type} {f : Nat → α} {k j : Nat} {x y : α} (h : k ≠ j) : ab_up (ab_up f k x) j y = ab_up (ab_up f j y) k x := by
  funext i
  unfold ab_up
  by_cases e : i = j
  · rw [if_pos e, if_neg (fun z => h (z.symm.trans e)), if_pos e]
  · rw [if_neg e]
    by_cases e2 : i = k
    · rw [if_pos e2, if_pos e2]
    · rw [if_neg e2, if_neg e2, if_neg e]
