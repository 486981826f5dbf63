/-! the equations of runs, an instruction each: printed by wip/p34/gen_step.py -/
theorem e_0_0 {ls : ab_L} {st : List Value} {w : ab_W} (h : ab_isR (ls 0) = true) : ab_Run ab_mt 0 0 ls st w = ab_Run ab_mt 0 1 ls (ab_gv (ls 0) :: st) w := E_loadr (n := 1) rfl h
theorem e_0_1 {ls : ab_L} {st : List Value} {w : ab_W} {a : Nat} (h8 : ab_w8 st = true) : ab_Run ab_mt 0 1 ls (.ref a :: st) w = ab_Run ab_mt 0 4 ls st w := E_oini rfl h8
theorem e_0_4 {ls : ab_L} {st : List Value} {w : ab_W} (h : ab_isR (ls 0) = true) : ab_Run ab_mt 0 4 ls st w = ab_Run ab_mt 0 5 ls (ab_gv (ls 0) :: st) w := E_loadr (n := 1) rfl h
theorem e_0_5 {ls : ab_L} {st : List Value} {w : ab_W} (h : w.1.1 = true) : ab_Run ab_mt 0 5 ls st w = ab_Run ab_mt 0 8 ls (.ref w.1.2.1 :: st) (ab_mk w.1 w.2 (ab_ob 1 [.null, .null, .null, .null, .null, .null, .int 0, .long 0]) 8) := E_new (n := 3) (x := ab_ob 1 [.null, .null, .null, .null, .null, .null, .int 0, .long 0]) (sz := 8) (rest := st) rfl rfl h
theorem e_0_8 {ls : ab_L} {st : List Value} {w : ab_W} {x : Nat} : ab_Run ab_mt 0 8 ls (.ref x :: st) w = ab_Run ab_mt 0 9 ls (.ref x :: .ref x :: st) w := E_dup_r rfl
theorem e_0_9 {ls : ab_L} {st : List Value} {w : ab_W} {v0 : Value} (h1 : ab_recv ab_mt 26 [v0] w.2 = true) (h8 : ab_w8 st = true) : ab_Run ab_mt 0 9 ls (v0 :: st) w = ab_aft 26 0 9 ls st (ab_Cl 26 [v0] w) := E_call1 rfl h1 h8
theorem e_0_12 {ls : ab_L} {st : List Value} {w : ab_W} {a : Nat} {x : Nat} (h : ab_isF 0 0 (w.2 a) = true) : ab_Run ab_mt 0 12 ls (.ref x :: .ref a :: st) w = ab_Run ab_mt 0 15 ls st (w.1, ab_up w.2 a (ab_sf 0 (.ref x) (w.2 a))) := E_put rfl h rfl
theorem e_0_15 {ls : ab_L} {st : List Value} {w : ab_W} (h : ab_isR (ls 0) = true) : ab_Run ab_mt 0 15 ls st w = ab_Run ab_mt 0 16 ls (ab_gv (ls 0) :: st) w := E_loadr (n := 1) rfl h
theorem e_0_16 {ls : ab_L} {st : List Value} {w : ab_W} (h : ab_isR (ls 0) = true) : ab_Run ab_mt 0 16 ls st w = ab_Run ab_mt 0 17 ls (ab_gv (ls 0) :: st) w := E_loadr (n := 1) rfl h
theorem e_0_17 {ls : ab_L} {st : List Value} {w : ab_W} {a : Nat} (h : ab_isF 0 0 (w.2 a) = true) : ab_Run ab_mt 0 17 ls (.ref a :: st) w = ab_Run ab_mt 0 20 ls (ab_fv 0 (w.2 a) :: st) w := E_get rfl h
theorem e_0_20 {ls : ab_L} {st : List Value} {w : ab_W} {a : Nat} (h : ab_isF 1 0 (w.2 a) = true) : ab_Run ab_mt 0 20 ls (.ref a :: st) w = ab_Run ab_mt 0 23 ls (ab_fv 0 (w.2 a) :: st) w := E_get rfl h
theorem e_0_23 {ls : ab_L} {st : List Value} {w : ab_W} {a : Nat} {x : Nat} (h : ab_isF 0 1 (w.2 a) = true) : ab_Run ab_mt 0 23 ls (.ref x :: .ref a :: st) w = ab_Run ab_mt 0 26 ls st (w.1, ab_up w.2 a (ab_sf 1 (.ref x) (w.2 a))) := E_put rfl h rfl
theorem e_0_26 {ls : ab_L} {st : List Value} {w : ab_W} (h : ab_isR (ls 0) = true) : ab_Run ab_mt 0 26 ls st w = ab_Run ab_mt 0 27 ls (ab_gv (ls 0) :: st) w := E_loadr (n := 1) rfl h
theorem e_0_27 {ls : ab_L} {st : List Value} {w : ab_W} (h : w.1.1 = true) : ab_Run ab_mt 0 27 ls st w = ab_Run ab_mt 0 30 ls (.ref w.1.2.1 :: st) (ab_mk w.1 w.2 (ab_ob 4 [.int 0, .int 0, .int 0, .int 0, .int 0, .int 0, .int 0, .long 0, .int 0, .int 0, .int 0]) 11) := E_new (n := 3) (x := ab_ob 4 [.int 0, .int 0, .int 0, .int 0, .int 0, .int 0, .int 0, .long 0, .int 0, .int 0, .int 0]) (sz := 11) (rest := st) rfl rfl h
theorem e_0_30 {ls : ab_L} {st : List Value} {w : ab_W} {x : Nat} : ab_Run ab_mt 0 30 ls (.ref x :: st) w = ab_Run ab_mt 0 31 ls (.ref x :: .ref x :: st) w := E_dup_r rfl
theorem e_0_31 {ls : ab_L} {st : List Value} {w : ab_W} {v0 : Value} (h1 : ab_recv ab_mt 58 [v0] w.2 = true) (h8 : ab_w8 st = true) : ab_Run ab_mt 0 31 ls (v0 :: st) w = ab_aft 58 0 31 ls st (ab_Cl 58 [v0] w) := E_call1 rfl h1 h8
theorem e_0_34 {ls : ab_L} {st : List Value} {w : ab_W} {a : Nat} {x : Nat} (h : ab_isF 0 2 (w.2 a) = true) : ab_Run ab_mt 0 34 ls (.ref x :: .ref a :: st) w = ab_Run ab_mt 0 37 ls st (w.1, ab_up w.2 a (ab_sf 2 (.ref x) (w.2 a))) := E_put rfl h rfl
theorem e_0_37 {ls : ab_L} {st : List Value} {w : ab_W} (h : ab_isR (ls 0) = true) : ab_Run ab_mt 0 37 ls st w = ab_Run ab_mt 0 38 ls (ab_gv (ls 0) :: st) w := E_loadr (n := 1) rfl h
theorem e_0_38 {ls : ab_L} {st : List Value} {w : ab_W} (h : w.1.1 = true) : ab_Run ab_mt 0 38 ls st w = ab_Run ab_mt 0 41 ls (.ref w.1.2.1 :: st) (ab_mk w.1 w.2 (ab_ob 5 [.null, .int 0]) 2) := E_new (n := 3) (x := ab_ob 5 [.null, .int 0]) (sz := 2) (rest := st) rfl rfl h
theorem e_0_41 {ls : ab_L} {st : List Value} {w : ab_W} {x : Nat} : ab_Run ab_mt 0 41 ls (.ref x :: st) w = ab_Run ab_mt 0 42 ls (.ref x :: .ref x :: st) w := E_dup_r rfl
theorem e_0_42 {ls : ab_L} {st : List Value} {w : ab_W} {v0 : Value} (h1 : ab_recv ab_mt 59 [v0] w.2 = true) (h8 : ab_w8 st = true) : ab_Run ab_mt 0 42 ls (v0 :: st) w = ab_aft 59 0 42 ls st (ab_Cl 59 [v0] w) := E_call1 rfl h1 h8
theorem e_0_45 {ls : ab_L} {st : List Value} {w : ab_W} {a : Nat} {x : Nat} (h : ab_isF 0 3 (w.2 a) = true) : ab_Run ab_mt 0 45 ls (.ref x :: .ref a :: st) w = ab_Run ab_mt 0 48 ls st (w.1, ab_up w.2 a (ab_sf 3 (.ref x) (w.2 a))) := E_put rfl h rfl
theorem e_0_48 {ls : ab_L} {st : List Value} {w : ab_W} (h : ab_isR (ls 0) = true) : ab_Run ab_mt 0 48 ls st w = ab_Run ab_mt 0 49 ls (ab_gv (ls 0) :: st) w := E_loadr (n := 1) rfl h
theorem e_0_49 {ls : ab_L} {st : List Value} {w : ab_W} : ab_Run ab_mt 0 49 ls st w = ab_Run ab_mt 0 50 ls (.int (nI 2) :: st) w := E_push (n := 1) rfl
theorem e_0_50 {ls : ab_L} {st : List Value} {w : ab_W} {n : Int32} (h : w.1.1 = true) (hn : ¬ (n < 0 ∨ 60000 < n.toNatClampNeg)) : ab_Run ab_mt 0 50 ls (.int n :: st) w = ab_Run ab_mt 0 53 ls (.ref w.1.2.1 :: st) (ab_mk w.1 w.2 (ab_qa n.toNatClampNeg (ab_nq n.toNatClampNeg)) n.toNatClampNeg) := E_new (n := 3) (x := ab_qa n.toNatClampNeg (ab_nq n.toNatClampNeg)) (sz := n.toNatClampNeg) (rest := st) rfl (if_neg hn) h
theorem e_0_53 {ls : ab_L} {st : List Value} {w : ab_W} {a : Nat} {x : Nat} (h : ab_isF 0 4 (w.2 a) = true) : ab_Run ab_mt 0 53 ls (.ref x :: .ref a :: st) w = ab_Run ab_mt 0 56 ls st (w.1, ab_up w.2 a (ab_sf 4 (.ref x) (w.2 a))) := E_put rfl h rfl
theorem e_0_56 {ls : ab_L} {st : List Value} {w : ab_W} (h : ab_isR (ls 0) = true) : ab_Run ab_mt 0 56 ls st w = ab_Run ab_mt 0 57 ls (ab_gv (ls 0) :: st) w := E_loadr (n := 1) rfl h
theorem e_0_57 {ls : ab_L} {st : List Value} {w : ab_W} : ab_Run ab_mt 0 57 ls st w = ab_Run ab_mt 0 59 ls (.int (nI 60) :: st) w := E_push (n := 2) rfl
theorem e_0_59 {ls : ab_L} {st : List Value} {w : ab_W} {n : Int32} (h : w.1.1 = true) (hn : ¬ (n < 0 ∨ 60000 < n.toNatClampNeg)) : ab_Run ab_mt 0 59 ls (.int n :: st) w = ab_Run ab_mt 0 61 ls (.ref w.1.2.1 :: st) (ab_mk w.1 w.2 (ab_ia n.toNatClampNeg (fun _ => 0)) n.toNatClampNeg) := E_new (n := 2) (x := ab_ia n.toNatClampNeg (fun _ => 0)) (sz := n.toNatClampNeg) (rest := st) rfl (if_neg hn) h
theorem e_0_61 {ls : ab_L} {st : List Value} {w : ab_W} {a : Nat} {x : Nat} (h : ab_isF 0 6 (w.2 a) = true) : ab_Run ab_mt 0 61 ls (.ref x :: .ref a :: st) w = ab_Run ab_mt 0 64 ls st (w.1, ab_up w.2 a (ab_sf 6 (.ref x) (w.2 a))) := E_put rfl h rfl
theorem e_0_64 {ls : ab_L} {st : List Value} {w : ab_W} (h : ab_isR (ls 0) = true) : ab_Run ab_mt 0 64 ls st w = ab_Run ab_mt 0 65 ls (ab_gv (ls 0) :: st) w := E_loadr (n := 1) rfl h
theorem e_0_65 {ls : ab_L} {st : List Value} {w : ab_W} (h : w.1.1 = true) : ab_Run ab_mt 0 65 ls st w = ab_Run ab_mt 0 68 ls (.ref w.1.2.1 :: st) (ab_mk w.1 w.2 (ab_ob 6 [.null, .int 0, .int 0, .int 0, .int 0]) 5) := E_new (n := 3) (x := ab_ob 6 [.null, .int 0, .int 0, .int 0, .int 0]) (sz := 5) (rest := st) rfl rfl h
theorem e_0_68 {ls : ab_L} {st : List Value} {w : ab_W} {x : Nat} : ab_Run ab_mt 0 68 ls (.ref x :: st) w = ab_Run ab_mt 0 69 ls (.ref x :: .ref x :: st) w := E_dup_r rfl
theorem e_0_69 {ls : ab_L} {st : List Value} {w : ab_W} {v0 : Value} (h1 : ab_recv ab_mt 62 [v0] w.2 = true) (h8 : ab_w8 st = true) : ab_Run ab_mt 0 69 ls (v0 :: st) w = ab_aft 62 0 69 ls st (ab_Cl 62 [v0] w) := E_call1 rfl h1 h8
theorem e_0_72 {ls : ab_L} {st : List Value} {w : ab_W} {a : Nat} {x : Nat} (h : ab_isF 0 8 (w.2 a) = true) : ab_Run ab_mt 0 72 ls (.ref x :: .ref a :: st) w = ab_Run ab_mt 0 75 ls st (w.1, ab_up w.2 a (ab_sf 8 (.ref x) (w.2 a))) := E_put rfl h rfl
theorem e_0_75 {ls : ab_L} {st : List Value} {w : ab_W} (h : ab_isR (ls 0) = true) : ab_Run ab_mt 0 75 ls st w = ab_Run ab_mt 0 76 ls (ab_gv (ls 0) :: st) w := E_loadr (n := 1) rfl h
theorem e_0_76 {ls : ab_L} {st : List Value} {w : ab_W} (h : w.1.1 = true) : ab_Run ab_mt 0 76 ls st w = ab_Run ab_mt 0 79 ls (.ref w.1.2.1 :: st) (ab_mk w.1 w.2 (ab_ob 1 [.null, .null, .null, .null, .null, .null, .int 0, .long 0]) 8) := E_new (n := 3) (x := ab_ob 1 [.null, .null, .null, .null, .null, .null, .int 0, .long 0]) (sz := 8) (rest := st) rfl rfl h
theorem e_0_79 {ls : ab_L} {st : List Value} {w : ab_W} {x : Nat} : ab_Run ab_mt 0 79 ls (.ref x :: st) w = ab_Run ab_mt 0 80 ls (.ref x :: .ref x :: st) w := E_dup_r rfl
theorem e_0_80 {ls : ab_L} {st : List Value} {w : ab_W} {v0 : Value} (h1 : ab_recv ab_mt 26 [v0] w.2 = true) (h8 : ab_w8 st = true) : ab_Run ab_mt 0 80 ls (v0 :: st) w = ab_aft 26 0 80 ls st (ab_Cl 26 [v0] w) := E_call1 rfl h1 h8
theorem e_0_83 {ls : ab_L} {st : List Value} {w : ab_W} {a : Nat} {x : Nat} (h : ab_isF 0 9 (w.2 a) = true) : ab_Run ab_mt 0 83 ls (.ref x :: .ref a :: st) w = ab_Run ab_mt 0 86 ls st (w.1, ab_up w.2 a (ab_sf 9 (.ref x) (w.2 a))) := E_put rfl h rfl
theorem e_0_86 {ls : ab_L} {st : List Value} {w : ab_W} : ab_Run ab_mt 0 86 ls st w = ab_Run ab_mt 0 87 ls (.int (nI 0) :: st) w := E_push (n := 1) rfl
theorem e_0_87 {ls : ab_L} {st : List Value} {w : ab_W} {x : Int32} : ab_Run ab_mt 0 87 ls (.int x :: st) w = ab_Run ab_mt 0 88 (ab_l1 ls 1 (.int x)) st w := E_stori (n := 1) rfl
theorem e_0_88 {ls : ab_L} {st : List Value} {w : ab_W} (h : ab_isI (ls 1) = true) : ab_Run ab_mt 0 88 ls st w = ab_Run ab_mt 0 89 ls (ab_gv (ls 1) :: st) w := E_loadi (n := 1) rfl h
theorem e_0_89 {ls : ab_L} {st : List Value} {w : ab_W} (h : ab_isR (ls 0) = true) : ab_Run ab_mt 0 89 ls st w = ab_Run ab_mt 0 90 ls (ab_gv (ls 0) :: st) w := E_loadr (n := 1) rfl h
theorem e_0_90 {ls : ab_L} {st : List Value} {w : ab_W} {a : Nat} (h : ab_isF 0 4 (w.2 a) = true) : ab_Run ab_mt 0 90 ls (.ref a :: st) w = ab_Run ab_mt 0 93 ls (ab_fv 4 (w.2 a) :: st) w := E_get rfl h
theorem e_0_93 {ls : ab_L} {st : List Value} {w : ab_W} {a : Nat} (h : ab_isA (w.2 a) = true) : ab_Run ab_mt 0 93 ls (.ref a :: st) w = ab_Run ab_mt 0 94 ls (.int (nI (ab_ln (w.2 a))) :: st) w := E_alen rfl h
theorem e_0_94 {ls : ab_L} {st : List Value} {w : ab_W} {x y : Int32} : ab_Run ab_mt 0 94 ls (.int y :: .int x :: st) w = if y ≤ x then ab_Run ab_mt 0 116 ls st w else ab_Run ab_mt 0 97 ls st w := E_ic_ge rfl
theorem e_0_97 {ls : ab_L} {st : List Value} {w : ab_W} (h : ab_isR (ls 0) = true) : ab_Run ab_mt 0 97 ls st w = ab_Run ab_mt 0 98 ls (ab_gv (ls 0) :: st) w := E_loadr (n := 1) rfl h
theorem e_0_98 {ls : ab_L} {st : List Value} {w : ab_W} {a : Nat} (h : ab_isF 0 4 (w.2 a) = true) : ab_Run ab_mt 0 98 ls (.ref a :: st) w = ab_Run ab_mt 0 101 ls (ab_fv 4 (w.2 a) :: st) w := E_get rfl h
theorem e_0_101 {ls : ab_L} {st : List Value} {w : ab_W} (h : ab_isI (ls 1) = true) : ab_Run ab_mt 0 101 ls st w = ab_Run ab_mt 0 102 ls (ab_gv (ls 1) :: st) w := E_loadi (n := 1) rfl h
theorem e_0_102 {ls : ab_L} {st : List Value} {w : ab_W} (h : w.1.1 = true) : ab_Run ab_mt 0 102 ls st w = ab_Run ab_mt 0 105 ls (.ref w.1.2.1 :: st) (ab_mk w.1 w.2 (ab_ob 2 [.null, .null, .null]) 3) := E_new (n := 3) (x := ab_ob 2 [.null, .null, .null]) (sz := 3) (rest := st) rfl rfl h
theorem e_0_105 {ls : ab_L} {st : List Value} {w : ab_W} {x : Nat} : ab_Run ab_mt 0 105 ls (.ref x :: st) w = ab_Run ab_mt 0 106 ls (.ref x :: .ref x :: st) w := E_dup_r rfl
theorem e_0_106 {ls : ab_L} {st : List Value} {w : ab_W} {v0 : Value} (h1 : ab_recv ab_mt 50 [v0] w.2 = true) (h8 : ab_w8 st = true) : ab_Run ab_mt 0 106 ls (v0 :: st) w = ab_aft 50 0 106 ls st (ab_Cl 50 [v0] w) := E_call1 rfl h1 h8
theorem e_0_109 {ls : ab_L} {st : List Value} {w : ab_W} {a x : Nat} {i : Int32} (h : ab_inP i (w.2 a) = true) (h2 : ab_isO 2 (w.2 x) = true) : ab_Run ab_mt 0 109 ls (.ref x :: .int i :: .ref a :: st) w = ab_Run ab_mt 0 110 ls st (w.1, ab_up w.2 a (ab_sQ i.toNatClampNeg x (w.2 a))) := E_aast rfl h h2
theorem e_0_110 {ls : ab_L} {st : List Value} {w : ab_W} (h : ab_isI (ls 1) = true) : ab_Run ab_mt 0 110 ls st w = ab_Run ab_mt 0 113 (ab_l1 ls 1 (.int (ab_gi (ls 1) + (nI 1)))) st w := E_iinc rfl h
theorem e_0_113 {ls : ab_L} {st : List Value} {w : ab_W} : ab_Run ab_mt 0 113 ls st w = ab_Run ab_mt 0 88 ls st w := E_goto rfl
theorem e_0_116 {ls : ab_L} {w : ab_W} : ab_Run ab_mt 0 116 ls [] w = some (.inl none, w) := E_ret0 rfl
theorem rv_0 {σ : ab_S} {t : Nat} : ab_recv ab_mt 0 [.ref t] σ = ab_isO 0 (σ t) := rfl
theorem e_1_0 {ls : ab_L} {st : List Value} {w : ab_W} (h : ab_isI (ls 1) = true) : ab_Run ab_mt 1 0 ls st w = ab_Run ab_mt 1 1 ls (ab_gv (ls 1) :: st) w := E_loadi (n := 1) rfl h
theorem e_1_1 {ls : ab_L} {st : List Value} {w : ab_W} {x : Int32} : ab_Run ab_mt 1 1 ls (.int x :: st) w = ab_Run ab_mt 1 2 ls (.long x.toInt64 :: st) w := E_i2l rfl
theorem e_1_2 {ls : ab_L} {st : List Value} {w : ab_W} : ab_Run ab_mt 1 2 ls st w = ab_Run ab_mt 1 5 ls (.ref 1 :: st) w := E_push (n := 3) rfl
theorem e_1_5 {ls : ab_L} {st : List Value} {w : ab_W} : ab_Run ab_mt 1 5 ls st w = ab_Run ab_mt 1 6 ls (.int (nI 0) :: st) w := E_push (n := 1) rfl
theorem e_1_6 {ls : ab_L} {st : List Value} {w : ab_W} {a : Nat} {i : Int32} (h : ab_inI i (w.2 a) = true) : ab_Run ab_mt 1 6 ls (.int i :: .ref a :: st) w = ab_Run ab_mt 1 7 ls (.int (ab_aI i.toNatClampNeg (w.2 a)) :: st) w := E_iald rfl h
theorem e_1_7 {ls : ab_L} {st : List Value} {w : ab_W} {x : Int32} : ab_Run ab_mt 1 7 ls (.int x :: st) w = ab_Run ab_mt 1 8 ls (.long x.toInt64 :: st) w := E_i2l rfl
theorem e_1_8 {ls : ab_L} {st : List Value} {w : ab_W} : ab_Run ab_mt 1 8 ls st w = ab_Run ab_mt 1 11 ls (.ref 2 :: st) w := E_push (n := 3) rfl
theorem e_1_11 {ls : ab_L} {st : List Value} {w : ab_W} : ab_Run ab_mt 1 11 ls st w = ab_Run ab_mt 1 12 ls (.int (nI 0) :: st) w := E_push (n := 1) rfl
theorem e_1_12 {ls : ab_L} {st : List Value} {w : ab_W} {a : Nat} {i : Int32} (h : ab_inI i (w.2 a) = true) : ab_Run ab_mt 1 12 ls (.int i :: .ref a :: st) w = ab_Run ab_mt 1 13 ls (.int (ab_aI i.toNatClampNeg (w.2 a)) :: st) w := E_iald rfl h
theorem e_1_13 {ls : ab_L} {st : List Value} {w : ab_W} {x : Int32} : ab_Run ab_mt 1 13 ls (.int x :: st) w = ab_Run ab_mt 1 14 ls (.long x.toInt64 :: st) w := E_i2l rfl
theorem e_1_14 {ls : ab_L} {st : List Value} {w : ab_W} {v0 v1 v2 : Value} (h1 : ab_recv ab_mt 17 [v0, v1, v2] w.2 = true) (h8 : ab_w8 st = true) : ab_Run ab_mt 1 14 ls (v2 :: v1 :: v0 :: st) w = ab_aft 17 1 14 ls st (ab_Cl 17 [v0, v1, v2] w) := E_call3 rfl h1 h8
theorem e_1_17 {ls : ab_L} {st : List Value} {w : ab_W} (h : ab_isI (ls 2) = true) : ab_Run ab_mt 1 17 ls st w = ab_Run ab_mt 1 18 ls (ab_gv (ls 2) :: st) w := E_loadi (n := 1) rfl h
theorem e_1_18 {ls : ab_L} {st : List Value} {w : ab_W} {x : Int32} : ab_Run ab_mt 1 18 ls (.int x :: st) w = ab_Run ab_mt 1 19 ls (.long x.toInt64 :: st) w := E_i2l rfl
theorem e_1_19 {ls : ab_L} {st : List Value} {w : ab_W} : ab_Run ab_mt 1 19 ls st w = ab_Run ab_mt 1 22 ls (.ref 1 :: st) w := E_push (n := 3) rfl
theorem e_1_22 {ls : ab_L} {st : List Value} {w : ab_W} : ab_Run ab_mt 1 22 ls st w = ab_Run ab_mt 1 23 ls (.int (nI 1) :: st) w := E_push (n := 1) rfl
theorem e_1_23 {ls : ab_L} {st : List Value} {w : ab_W} {a : Nat} {i : Int32} (h : ab_inI i (w.2 a) = true) : ab_Run ab_mt 1 23 ls (.int i :: .ref a :: st) w = ab_Run ab_mt 1 24 ls (.int (ab_aI i.toNatClampNeg (w.2 a)) :: st) w := E_iald rfl h
theorem e_1_24 {ls : ab_L} {st : List Value} {w : ab_W} {x : Int32} : ab_Run ab_mt 1 24 ls (.int x :: st) w = ab_Run ab_mt 1 25 ls (.long x.toInt64 :: st) w := E_i2l rfl
theorem e_1_25 {ls : ab_L} {st : List Value} {w : ab_W} : ab_Run ab_mt 1 25 ls st w = ab_Run ab_mt 1 28 ls (.ref 2 :: st) w := E_push (n := 3) rfl
theorem e_1_28 {ls : ab_L} {st : List Value} {w : ab_W} : ab_Run ab_mt 1 28 ls st w = ab_Run ab_mt 1 29 ls (.int (nI 1) :: st) w := E_push (n := 1) rfl
theorem e_1_29 {ls : ab_L} {st : List Value} {w : ab_W} {a : Nat} {i : Int32} (h : ab_inI i (w.2 a) = true) : ab_Run ab_mt 1 29 ls (.int i :: .ref a :: st) w = ab_Run ab_mt 1 30 ls (.int (ab_aI i.toNatClampNeg (w.2 a)) :: st) w := E_iald rfl h
theorem e_1_30 {ls : ab_L} {st : List Value} {w : ab_W} {x : Int32} : ab_Run ab_mt 1 30 ls (.int x :: st) w = ab_Run ab_mt 1 31 ls (.long x.toInt64 :: st) w := E_i2l rfl
theorem e_1_31 {ls : ab_L} {st : List Value} {w : ab_W} {v0 v1 v2 : Value} (h1 : ab_recv ab_mt 17 [v0, v1, v2] w.2 = true) (h8 : ab_w8 st = true) : ab_Run ab_mt 1 31 ls (v2 :: v1 :: v0 :: st) w = ab_aft 17 1 31 ls st (ab_Cl 17 [v0, v1, v2] w) := E_call3 rfl h1 h8
theorem e_1_34 {ls : ab_L} {st : List Value} {w : ab_W} (h : ab_isR (ls 0) = true) : ab_Run ab_mt 1 34 ls st w = ab_Run ab_mt 1 35 ls (ab_gv (ls 0) :: st) w := E_loadr (n := 1) rfl h
theorem e_1_35 {ls : ab_L} {st : List Value} {w : ab_W} {v0 : Value} (h1 : ab_recv ab_mt 19 [v0] w.2 = true) (h8 : ab_w8 st = true) : ab_Run ab_mt 1 35 ls (v0 :: st) w = ab_aft 19 1 35 ls st (ab_Cl 19 [v0] w) := E_call1 rfl h1 h8
theorem e_1_38 {ls : ab_L} {st : List Value} {w : ab_W} (h : ab_isR (ls 0) = true) : ab_Run ab_mt 1 38 ls st w = ab_Run ab_mt 1 39 ls (ab_gv (ls 0) :: st) w := E_loadr (n := 1) rfl h
theorem e_1_39 {ls : ab_L} {st : List Value} {w : ab_W} {a : Nat} (h : ab_isF 0 1 (w.2 a) = true) : ab_Run ab_mt 1 39 ls (.ref a :: st) w = ab_Run ab_mt 1 42 ls (ab_fv 1 (w.2 a) :: st) w := E_get rfl h
theorem e_1_42 {ls : ab_L} {st : List Value} {w : ab_W} {a : Nat} (h : ab_isF 2 0 (w.2 a) = true) : ab_Run ab_mt 1 42 ls (.ref a :: st) w = ab_Run ab_mt 1 45 ls (ab_fv 0 (w.2 a) :: st) w := E_get rfl h
theorem e_1_45 {ls : ab_L} {st : List Value} {w : ab_W} : ab_Run ab_mt 1 45 ls st w = ab_Run ab_mt 1 46 ls (.int (nI 1) :: st) w := E_push (n := 1) rfl
theorem e_1_46 {ls : ab_L} {st : List Value} {w : ab_W} : ab_Run ab_mt 1 46 ls st w = ab_Run ab_mt 1 48 ls (.int (nI 24) :: st) w := E_push (n := 2) rfl
theorem e_1_48 {ls : ab_L} {st : List Value} {w : ab_W} {v0 v1 v2 : Value} (h1 : ab_recv ab_mt 18 [v0, v1, v2] w.2 = true) (h8 : ab_w8 st = true) : ab_Run ab_mt 1 48 ls (v2 :: v1 :: v0 :: st) w = ab_aft 18 1 48 ls st (ab_Cl 18 [v0, v1, v2] w) := E_call3 rfl h1 h8
theorem e_1_51 {ls : ab_L} {st : List Value} {w : ab_W} (h : ab_isR (ls 0) = true) : ab_Run ab_mt 1 51 ls st w = ab_Run ab_mt 1 52 ls (ab_gv (ls 0) :: st) w := E_loadr (n := 1) rfl h
theorem e_1_52 {ls : ab_L} {st : List Value} {w : ab_W} {a : Nat} (h : ab_isF 0 3 (w.2 a) = true) : ab_Run ab_mt 1 52 ls (.ref a :: st) w = ab_Run ab_mt 1 55 ls (ab_fv 3 (w.2 a) :: st) w := E_get rfl h
theorem e_1_55 {ls : ab_L} {st : List Value} {w : ab_W} (h : ab_isR (ls 0) = true) : ab_Run ab_mt 1 55 ls st w = ab_Run ab_mt 1 56 ls (ab_gv (ls 0) :: st) w := E_loadr (n := 1) rfl h
theorem e_1_56 {ls : ab_L} {st : List Value} {w : ab_W} {a : Nat} (h : ab_isF 0 1 (w.2 a) = true) : ab_Run ab_mt 1 56 ls (.ref a :: st) w = ab_Run ab_mt 1 59 ls (ab_fv 1 (w.2 a) :: st) w := E_get rfl h
theorem e_1_59 {ls : ab_L} {st : List Value} {w : ab_W} {v0 v1 : Value} (h1 : ab_recv ab_mt 60 [v0, v1] w.2 = true) (h8 : ab_w8 st = true) : ab_Run ab_mt 1 59 ls (v1 :: v0 :: st) w = ab_aft 60 1 59 ls st (ab_Cl 60 [v0, v1] w) := E_call2 rfl h1 h8
theorem e_1_62 {ls : ab_L} {st : List Value} {w : ab_W} (h : ab_isR (ls 0) = true) : ab_Run ab_mt 1 62 ls st w = ab_Run ab_mt 1 63 ls (ab_gv (ls 0) :: st) w := E_loadr (n := 1) rfl h
theorem e_1_63 {ls : ab_L} {st : List Value} {w : ab_W} {a : Nat} (h : ab_isF 0 1 (w.2 a) = true) : ab_Run ab_mt 1 63 ls (.ref a :: st) w = ab_Run ab_mt 1 66 ls (ab_fv 1 (w.2 a) :: st) w := E_get rfl h
theorem e_1_66 {ls : ab_L} {st : List Value} {w : ab_W} {a : Nat} (h : ab_isF 2 0 (w.2 a) = true) : ab_Run ab_mt 1 66 ls (.ref a :: st) w = ab_Run ab_mt 1 69 ls (ab_fv 0 (w.2 a) :: st) w := E_get rfl h
theorem e_1_69 {ls : ab_L} {st : List Value} {w : ab_W} (h : ab_isI (ls 1) = true) : ab_Run ab_mt 1 69 ls st w = ab_Run ab_mt 1 70 ls (ab_gv (ls 1) :: st) w := E_loadi (n := 1) rfl h
theorem e_1_70 {ls : ab_L} {st : List Value} {w : ab_W} (h : ab_isI (ls 2) = true) : ab_Run ab_mt 1 70 ls st w = ab_Run ab_mt 1 71 ls (ab_gv (ls 2) :: st) w := E_loadi (n := 1) rfl h
theorem e_1_71 {ls : ab_L} {st : List Value} {w : ab_W} {v0 v1 v2 : Value} (h1 : ab_recv ab_mt 21 [v0, v1, v2] w.2 = true) (h8 : ab_w8 st = true) : ab_Run ab_mt 1 71 ls (v2 :: v1 :: v0 :: st) w = ab_aft 21 1 71 ls st (ab_Cl 21 [v0, v1, v2] w) := E_call3 rfl h1 h8
theorem e_1_74 {ls : ab_L} {st : List Value} {w : ab_W} (h : ab_isR (ls 0) = true) : ab_Run ab_mt 1 74 ls st w = ab_Run ab_mt 1 75 ls (ab_gv (ls 0) :: st) w := E_loadr (n := 1) rfl h
theorem e_1_75 {ls : ab_L} {st : List Value} {w : ab_W} {a : Nat} (h : ab_isF 0 0 (w.2 a) = true) : ab_Run ab_mt 1 75 ls (.ref a :: st) w = ab_Run ab_mt 1 78 ls (ab_fv 0 (w.2 a) :: st) w := E_get rfl h
theorem e_1_78 {ls : ab_L} {st : List Value} {w : ab_W} {v0 : Value} (h1 : ab_recv ab_mt 27 [v0] w.2 = true) (h8 : ab_w8 st = true) : ab_Run ab_mt 1 78 ls (v0 :: st) w = ab_aft 27 1 78 ls st (ab_Cl 27 [v0] w) := E_call1 rfl h1 h8
theorem e_1_81 {ls : ab_L} {st : List Value} {w : ab_W} (h : ab_isR (ls 0) = true) : ab_Run ab_mt 1 81 ls st w = ab_Run ab_mt 1 82 ls (ab_gv (ls 0) :: st) w := E_loadr (n := 1) rfl h
theorem e_1_82 {ls : ab_L} {st : List Value} {w : ab_W} {a : Nat} (h : ab_isF 0 1 (w.2 a) = true) : ab_Run ab_mt 1 82 ls (.ref a :: st) w = ab_Run ab_mt 1 85 ls (ab_fv 1 (w.2 a) :: st) w := E_get rfl h
theorem e_1_85 {ls : ab_L} {st : List Value} {w : ab_W} {a : Nat} (h : ab_isF 2 0 (w.2 a) = true) : ab_Run ab_mt 1 85 ls (.ref a :: st) w = ab_Run ab_mt 1 88 ls (ab_fv 0 (w.2 a) :: st) w := E_get rfl h
theorem e_1_88 {ls : ab_L} {st : List Value} {w : ab_W} {a : Nat} (h : ab_isF 3 3 (w.2 a) = true) : ab_Run ab_mt 1 88 ls (.ref a :: st) w = ab_Run ab_mt 1 91 ls (ab_fv 3 (w.2 a) :: st) w := E_get rfl h
theorem e_1_91 {ls : ab_L} {st : List Value} {w : ab_W} : ab_Run ab_mt 1 91 ls st w = ab_Run ab_mt 1 92 ls (.int (nI 1) :: st) w := E_push (n := 1) rfl
theorem e_1_92 {ls : ab_L} {st : List Value} {w : ab_W} {x y : Int32} : ab_Run ab_mt 1 92 ls (.int y :: .int x :: st) w = ab_Run ab_mt 1 93 ls (.int (x - y) :: st) w := E_ib (f := fun x y => x - y) rfl
theorem e_1_93 {ls : ab_L} {w : ab_W} {x : Int32} : ab_Run ab_mt 1 93 ls [.int x] w = some (.inl (some (.int x)), w) := E_reti rfl
theorem rv_1 {σ : ab_S} {t : Nat} {x0 : Int32} {x1 : Int32} : ab_recv ab_mt 1 [.ref t, .int x0, .int x1] σ = ab_isO 0 (σ t) := rfl
theorem x_1_14 {ls : ab_L} {rest : List Value} {E : Nat} {w : ab_W} : ab_aft 17 1 14 ls rest (some (.inr E, w)) = some (.inr E, w) := ab_aft_x rfl rfl (by unfold ab_hand; rfl)
theorem x_1_31 {ls : ab_L} {rest : List Value} {E : Nat} {w : ab_W} : ab_aft 17 1 31 ls rest (some (.inr E, w)) = some (.inr E, w) := ab_aft_x rfl rfl (by unfold ab_hand; rfl)
theorem x_1_35 {ls : ab_L} {rest : List Value} {E : Nat} {w : ab_W} : ab_aft 19 1 35 ls rest (some (.inr E, w)) = some (.inr E, w) := ab_aft_x rfl rfl (by unfold ab_hand; rfl)
theorem x_1_48 {ls : ab_L} {rest : List Value} {E : Nat} {w : ab_W} : ab_aft 18 1 48 ls rest (some (.inr E, w)) = some (.inr E, w) := ab_aft_x rfl rfl (by unfold ab_hand; rfl)
theorem x_1_78 {ls : ab_L} {rest : List Value} {E : Nat} {w : ab_W} : ab_aft 27 1 78 ls rest (some (.inr E, w)) = some (.inr E, w) := ab_aft_x rfl rfl (by unfold ab_hand; rfl)
theorem e_2_0 {ls : ab_L} {st : List Value} {w : ab_W} (h : ab_isI (ls 1) = true) : ab_Run ab_mt 2 0 ls st w = ab_Run ab_mt 2 1 ls (ab_gv (ls 1) :: st) w := E_loadi (n := 1) rfl h
theorem e_2_1 {ls : ab_L} {st : List Value} {w : ab_W} (h : ab_isR (ls 0) = true) : ab_Run ab_mt 2 1 ls st w = ab_Run ab_mt 2 2 ls (ab_gv (ls 0) :: st) w := E_loadr (n := 1) rfl h
theorem e_2_2 {ls : ab_L} {st : List Value} {w : ab_W} {a : Nat} (h : ab_isF 0 1 (w.2 a) = true) : ab_Run ab_mt 2 2 ls (.ref a :: st) w = ab_Run ab_mt 2 5 ls (ab_fv 1 (w.2 a) :: st) w := E_get rfl h
theorem e_2_5 {ls : ab_L} {st : List Value} {w : ab_W} {a : Nat} (h : ab_isF 2 0 (w.2 a) = true) : ab_Run ab_mt 2 5 ls (.ref a :: st) w = ab_Run ab_mt 2 8 ls (ab_fv 0 (w.2 a) :: st) w := E_get rfl h
theorem e_2_8 {ls : ab_L} {st : List Value} {w : ab_W} {a : Nat} (h : ab_isF 3 3 (w.2 a) = true) : ab_Run ab_mt 2 8 ls (.ref a :: st) w = ab_Run ab_mt 2 11 ls (ab_fv 3 (w.2 a) :: st) w := E_get rfl h
theorem e_2_11 {ls : ab_L} {st : List Value} {w : ab_W} {v0 v1 : Value} (h1 : ab_recv ab_mt 16 [v0, v1] w.2 = true) (h8 : ab_w8 st = true) : ab_Run ab_mt 2 11 ls (v1 :: v0 :: st) w = ab_aft 16 2 11 ls st (ab_Cl 16 [v0, v1] w) := E_call2 rfl h1 h8
theorem e_2_14 {ls : ab_L} {st : List Value} {w : ab_W} (h : ab_isI (ls 2) = true) : ab_Run ab_mt 2 14 ls st w = ab_Run ab_mt 2 15 ls (ab_gv (ls 2) :: st) w := E_loadi (n := 1) rfl h
theorem e_2_15 {ls : ab_L} {st : List Value} {w : ab_W} : ab_Run ab_mt 2 15 ls st w = ab_Run ab_mt 2 16 ls (.int (nI 5) :: st) w := E_push (n := 1) rfl
theorem e_2_16 {ls : ab_L} {st : List Value} {w : ab_W} {v0 v1 : Value} (h1 : ab_recv ab_mt 16 [v0, v1] w.2 = true) (h8 : ab_w8 st = true) : ab_Run ab_mt 2 16 ls (v1 :: v0 :: st) w = ab_aft 16 2 16 ls st (ab_Cl 16 [v0, v1] w) := E_call2 rfl h1 h8
theorem e_2_19 {ls : ab_L} {st : List Value} {w : ab_W} (h : ab_isI (ls 3) = true) : ab_Run ab_mt 2 19 ls st w = ab_Run ab_mt 2 20 ls (ab_gv (ls 3) :: st) w := E_loadi (n := 1) rfl h
theorem e_2_20 {ls : ab_L} {st : List Value} {w : ab_W} {x : Int32} : ab_Run ab_mt 2 20 ls (.int x :: st) w = if x = 0 then ab_Run ab_mt 2 23 ls st w else ab_Run ab_mt 2 28 ls st w := E_if_ne rfl
theorem e_2_23 {ls : ab_L} {st : List Value} {w : ab_W} (h : ab_isI (ls 2) = true) : ab_Run ab_mt 2 23 ls st w = ab_Run ab_mt 2 24 ls (ab_gv (ls 2) :: st) w := E_loadi (n := 1) rfl h
theorem e_2_24 {ls : ab_L} {st : List Value} {w : ab_W} : ab_Run ab_mt 2 24 ls st w = ab_Run ab_mt 2 25 ls (.int (nI 2) :: st) w := E_push (n := 1) rfl
theorem e_2_25 {ls : ab_L} {st : List Value} {w : ab_W} {x y : Int32} : ab_Run ab_mt 2 25 ls (.int y :: .int x :: st) w = if y ≤ x then ab_Run ab_mt 2 45 ls st w else ab_Run ab_mt 2 28 ls st w := E_ic_ge rfl
theorem e_2_28 {ls : ab_L} {st : List Value} {w : ab_W} (h : ab_isI (ls 3) = true) : ab_Run ab_mt 2 28 ls st w = ab_Run ab_mt 2 29 ls (ab_gv (ls 3) :: st) w := E_loadi (n := 1) rfl h
theorem e_2_29 {ls : ab_L} {st : List Value} {w : ab_W} {x : Int32} : ab_Run ab_mt 2 29 ls (.int x :: st) w = ab_Run ab_mt 2 30 ls (.long x.toInt64 :: st) w := E_i2l rfl
theorem e_2_30 {ls : ab_L} {st : List Value} {w : ab_W} : ab_Run ab_mt 2 30 ls st w = ab_Run ab_mt 2 33 ls (.ref 1 :: st) w := E_push (n := 3) rfl
theorem e_2_33 {ls : ab_L} {st : List Value} {w : ab_W} (h : ab_isI (ls 2) = true) : ab_Run ab_mt 2 33 ls st w = ab_Run ab_mt 2 34 ls (ab_gv (ls 2) :: st) w := E_loadi (n := 1) rfl h
theorem e_2_34 {ls : ab_L} {st : List Value} {w : ab_W} {a : Nat} {i : Int32} (h : ab_inI i (w.2 a) = true) : ab_Run ab_mt 2 34 ls (.int i :: .ref a :: st) w = ab_Run ab_mt 2 35 ls (.int (ab_aI i.toNatClampNeg (w.2 a)) :: st) w := E_iald rfl h
theorem e_2_35 {ls : ab_L} {st : List Value} {w : ab_W} {x : Int32} : ab_Run ab_mt 2 35 ls (.int x :: st) w = ab_Run ab_mt 2 36 ls (.long x.toInt64 :: st) w := E_i2l rfl
theorem e_2_36 {ls : ab_L} {st : List Value} {w : ab_W} : ab_Run ab_mt 2 36 ls st w = ab_Run ab_mt 2 39 ls (.ref 2 :: st) w := E_push (n := 3) rfl
theorem e_2_39 {ls : ab_L} {st : List Value} {w : ab_W} (h : ab_isI (ls 2) = true) : ab_Run ab_mt 2 39 ls st w = ab_Run ab_mt 2 40 ls (ab_gv (ls 2) :: st) w := E_loadi (n := 1) rfl h
theorem e_2_40 {ls : ab_L} {st : List Value} {w : ab_W} {a : Nat} {i : Int32} (h : ab_inI i (w.2 a) = true) : ab_Run ab_mt 2 40 ls (.int i :: .ref a :: st) w = ab_Run ab_mt 2 41 ls (.int (ab_aI i.toNatClampNeg (w.2 a)) :: st) w := E_iald rfl h
theorem e_2_41 {ls : ab_L} {st : List Value} {w : ab_W} {x : Int32} : ab_Run ab_mt 2 41 ls (.int x :: st) w = ab_Run ab_mt 2 42 ls (.long x.toInt64 :: st) w := E_i2l rfl
theorem e_2_42 {ls : ab_L} {st : List Value} {w : ab_W} {v0 v1 v2 : Value} (h1 : ab_recv ab_mt 17 [v0, v1, v2] w.2 = true) (h8 : ab_w8 st = true) : ab_Run ab_mt 2 42 ls (v2 :: v1 :: v0 :: st) w = ab_aft 17 2 42 ls st (ab_Cl 17 [v0, v1, v2] w) := E_call3 rfl h1 h8
theorem e_2_45 {ls : ab_L} {st : List Value} {w : ab_W} (h : ab_isR (ls 0) = true) : ab_Run ab_mt 2 45 ls st w = ab_Run ab_mt 2 46 ls (ab_gv (ls 0) :: st) w := E_loadr (n := 1) rfl h
theorem e_2_46 {ls : ab_L} {st : List Value} {w : ab_W} {v0 : Value} (h1 : ab_recv ab_mt 19 [v0] w.2 = true) (h8 : ab_w8 st = true) : ab_Run ab_mt 2 46 ls (v0 :: st) w = ab_aft 19 2 46 ls st (ab_Cl 19 [v0] w) := E_call1 rfl h1 h8
theorem e_2_49 {ls : ab_L} {st : List Value} {w : ab_W} (h : ab_isR (ls 0) = true) : ab_Run ab_mt 2 49 ls st w = ab_Run ab_mt 2 50 ls (ab_gv (ls 0) :: st) w := E_loadr (n := 1) rfl h
theorem e_2_50 {ls : ab_L} {st : List Value} {w : ab_W} {a : Nat} (h : ab_isF 0 1 (w.2 a) = true) : ab_Run ab_mt 2 50 ls (.ref a :: st) w = ab_Run ab_mt 2 53 ls (ab_fv 1 (w.2 a) :: st) w := E_get rfl h
theorem e_2_53 {ls : ab_L} {st : List Value} {w : ab_W} {a : Nat} (h : ab_isF 2 0 (w.2 a) = true) : ab_Run ab_mt 2 53 ls (.ref a :: st) w = ab_Run ab_mt 2 56 ls (ab_fv 0 (w.2 a) :: st) w := E_get rfl h
theorem e_2_56 {ls : ab_L} {st : List Value} {w : ab_W} (h : ab_isI (ls 1) = true) : ab_Run ab_mt 2 56 ls st w = ab_Run ab_mt 2 57 ls (ab_gv (ls 1) :: st) w := E_loadi (n := 1) rfl h
theorem e_2_57 {ls : ab_L} {st : List Value} {w : ab_W} (h : ab_isI (ls 2) = true) : ab_Run ab_mt 2 57 ls st w = ab_Run ab_mt 2 58 ls (ab_gv (ls 2) :: st) w := E_loadi (n := 1) rfl h
theorem e_2_58 {ls : ab_L} {st : List Value} {w : ab_W} {v0 v1 v2 : Value} (h1 : ab_recv ab_mt 53 [v0, v1, v2] w.2 = true) (h8 : ab_w8 st = true) : ab_Run ab_mt 2 58 ls (v2 :: v1 :: v0 :: st) w = ab_aft 53 2 58 ls st (ab_Cl 53 [v0, v1, v2] w) := E_call3 rfl h1 h8
theorem e_2_61 {ls : ab_L} {st : List Value} {w : ab_W} {x : Int32} : ab_Run ab_mt 2 61 ls (.int x :: st) w = ab_Run ab_mt 2 63 (ab_l1 ls 4 (.int x)) st w := E_stori (n := 2) rfl
theorem e_2_63 {ls : ab_L} {st : List Value} {w : ab_W} (h : ab_isR (ls 0) = true) : ab_Run ab_mt 2 63 ls st w = ab_Run ab_mt 2 64 ls (ab_gv (ls 0) :: st) w := E_loadr (n := 1) rfl h
theorem e_2_64 {ls : ab_L} {st : List Value} {w : ab_W} {a : Nat} (h : ab_isF 0 3 (w.2 a) = true) : ab_Run ab_mt 2 64 ls (.ref a :: st) w = ab_Run ab_mt 2 67 ls (ab_fv 3 (w.2 a) :: st) w := E_get rfl h
theorem e_2_67 {ls : ab_L} {st : List Value} {w : ab_W} (h : ab_isR (ls 0) = true) : ab_Run ab_mt 2 67 ls st w = ab_Run ab_mt 2 68 ls (ab_gv (ls 0) :: st) w := E_loadr (n := 1) rfl h
theorem e_2_68 {ls : ab_L} {st : List Value} {w : ab_W} {a : Nat} (h : ab_isF 0 1 (w.2 a) = true) : ab_Run ab_mt 2 68 ls (.ref a :: st) w = ab_Run ab_mt 2 71 ls (ab_fv 1 (w.2 a) :: st) w := E_get rfl h
theorem e_2_71 {ls : ab_L} {st : List Value} {w : ab_W} {v0 v1 : Value} (h1 : ab_recv ab_mt 60 [v0, v1] w.2 = true) (h8 : ab_w8 st = true) : ab_Run ab_mt 2 71 ls (v1 :: v0 :: st) w = ab_aft 60 2 71 ls st (ab_Cl 60 [v0, v1] w) := E_call2 rfl h1 h8
theorem e_2_74 {ls : ab_L} {st : List Value} {w : ab_W} (h : ab_isR (ls 0) = true) : ab_Run ab_mt 2 74 ls st w = ab_Run ab_mt 2 75 ls (ab_gv (ls 0) :: st) w := E_loadr (n := 1) rfl h
theorem e_2_75 {ls : ab_L} {st : List Value} {w : ab_W} {a : Nat} (h : ab_isF 0 1 (w.2 a) = true) : ab_Run ab_mt 2 75 ls (.ref a :: st) w = ab_Run ab_mt 2 78 ls (ab_fv 1 (w.2 a) :: st) w := E_get rfl h
theorem e_2_78 {ls : ab_L} {st : List Value} {w : ab_W} {a : Nat} (h : ab_isF 2 0 (w.2 a) = true) : ab_Run ab_mt 2 78 ls (.ref a :: st) w = ab_Run ab_mt 2 81 ls (ab_fv 0 (w.2 a) :: st) w := E_get rfl h
theorem e_2_81 {ls : ab_L} {st : List Value} {w : ab_W} (h : ab_isI (ls 1) = true) : ab_Run ab_mt 2 81 ls st w = ab_Run ab_mt 2 82 ls (ab_gv (ls 1) :: st) w := E_loadi (n := 1) rfl h
theorem e_2_82 {ls : ab_L} {st : List Value} {w : ab_W} (h : ab_isI (ls 2) = true) : ab_Run ab_mt 2 82 ls st w = ab_Run ab_mt 2 83 ls (ab_gv (ls 2) :: st) w := E_loadi (n := 1) rfl h
theorem e_2_83 {ls : ab_L} {st : List Value} {w : ab_W} (h : ab_isI (ls 3) = true) : ab_Run ab_mt 2 83 ls st w = ab_Run ab_mt 2 84 ls (ab_gv (ls 3) :: st) w := E_loadi (n := 1) rfl h
theorem e_2_84 {ls : ab_L} {st : List Value} {w : ab_W} {v0 v1 v2 v3 : Value} (h1 : ab_recv ab_mt 54 [v0, v1, v2, v3] w.2 = true) (h8 : ab_w8 st = true) : ab_Run ab_mt 2 84 ls (v3 :: v2 :: v1 :: v0 :: st) w = ab_aft 54 2 84 ls st (ab_Cl 54 [v0, v1, v2, v3] w) := E_call4 rfl h1 h8
theorem e_2_87 {ls : ab_L} {st : List Value} {w : ab_W} (h : ab_isR (ls 0) = true) : ab_Run ab_mt 2 87 ls st w = ab_Run ab_mt 2 88 ls (ab_gv (ls 0) :: st) w := E_loadr (n := 1) rfl h
theorem e_2_88 {ls : ab_L} {st : List Value} {w : ab_W} (h : ab_isI (ls 1) = true) : ab_Run ab_mt 2 88 ls st w = ab_Run ab_mt 2 89 ls (ab_gv (ls 1) :: st) w := E_loadi (n := 1) rfl h
theorem e_2_89 {ls : ab_L} {st : List Value} {w : ab_W} {v0 v1 : Value} (h1 : ab_recv ab_mt 20 [v0, v1] w.2 = true) (h8 : ab_w8 st = true) : ab_Run ab_mt 2 89 ls (v1 :: v0 :: st) w = ab_aft 20 2 89 ls st (ab_Cl 20 [v0, v1] w) := E_call2 rfl h1 h8
theorem e_2_92 {ls : ab_L} {st : List Value} {w : ab_W} (h : ab_isR (ls 0) = true) : ab_Run ab_mt 2 92 ls st w = ab_Run ab_mt 2 93 ls (ab_gv (ls 0) :: st) w := E_loadr (n := 1) rfl h
theorem e_2_93 {ls : ab_L} {st : List Value} {w : ab_W} {a : Nat} (h : ab_isF 0 0 (w.2 a) = true) : ab_Run ab_mt 2 93 ls (.ref a :: st) w = ab_Run ab_mt 2 96 ls (ab_fv 0 (w.2 a) :: st) w := E_get rfl h
theorem e_2_96 {ls : ab_L} {st : List Value} {w : ab_W} {v0 : Value} (h1 : ab_recv ab_mt 27 [v0] w.2 = true) (h8 : ab_w8 st = true) : ab_Run ab_mt 2 96 ls (v0 :: st) w = ab_aft 27 2 96 ls st (ab_Cl 27 [v0] w) := E_call1 rfl h1 h8
theorem e_2_99 {ls : ab_L} {st : List Value} {w : ab_W} (h : ab_isI (ls 4) = true) : ab_Run ab_mt 2 99 ls st w = ab_Run ab_mt 2 101 ls (ab_gv (ls 4) :: st) w := E_loadi (n := 2) rfl h
theorem e_2_101 {ls : ab_L} {w : ab_W} {x : Int32} : ab_Run ab_mt 2 101 ls [.int x] w = some (.inl (some (.int x)), w) := E_reti rfl
theorem rv_2 {σ : ab_S} {t : Nat} {x0 : Int32} {x1 : Int32} {x2 : Int32} : ab_recv ab_mt 2 [.ref t, .int x0, .int x1, .int x2] σ = ab_isO 0 (σ t) := rfl
theorem x_2_11 {ls : ab_L} {rest : List Value} {E : Nat} {w : ab_W} : ab_aft 16 2 11 ls rest (some (.inr E, w)) = some (.inr E, w) := ab_aft_x rfl rfl (by unfold ab_hand; rfl)
theorem x_2_16 {ls : ab_L} {rest : List Value} {E : Nat} {w : ab_W} : ab_aft 16 2 16 ls rest (some (.inr E, w)) = some (.inr E, w) := ab_aft_x rfl rfl (by unfold ab_hand; rfl)
theorem x_2_42 {ls : ab_L} {rest : List Value} {E : Nat} {w : ab_W} : ab_aft 17 2 42 ls rest (some (.inr E, w)) = some (.inr E, w) := ab_aft_x rfl rfl (by unfold ab_hand; rfl)
theorem x_2_46 {ls : ab_L} {rest : List Value} {E : Nat} {w : ab_W} : ab_aft 19 2 46 ls rest (some (.inr E, w)) = some (.inr E, w) := ab_aft_x rfl rfl (by unfold ab_hand; rfl)
theorem x_2_96 {ls : ab_L} {rest : List Value} {E : Nat} {w : ab_W} : ab_aft 27 2 96 ls rest (some (.inr E, w)) = some (.inr E, w) := ab_aft_x rfl rfl (by unfold ab_hand; rfl)
theorem e_3_0 {ls : ab_L} {st : List Value} {w : ab_W} (h : ab_isI (ls 1) = true) : ab_Run ab_mt 3 0 ls st w = ab_Run ab_mt 3 1 ls (ab_gv (ls 1) :: st) w := E_loadi (n := 1) rfl h
theorem e_3_1 {ls : ab_L} {st : List Value} {w : ab_W} (h : ab_isR (ls 0) = true) : ab_Run ab_mt 3 1 ls st w = ab_Run ab_mt 3 2 ls (ab_gv (ls 0) :: st) w := E_loadr (n := 1) rfl h
theorem e_3_2 {ls : ab_L} {st : List Value} {w : ab_W} {a : Nat} (h : ab_isF 0 1 (w.2 a) = true) : ab_Run ab_mt 3 2 ls (.ref a :: st) w = ab_Run ab_mt 3 5 ls (ab_fv 1 (w.2 a) :: st) w := E_get rfl h
theorem e_3_5 {ls : ab_L} {st : List Value} {w : ab_W} {a : Nat} (h : ab_isF 2 0 (w.2 a) = true) : ab_Run ab_mt 3 5 ls (.ref a :: st) w = ab_Run ab_mt 3 8 ls (ab_fv 0 (w.2 a) :: st) w := E_get rfl h
theorem e_3_8 {ls : ab_L} {st : List Value} {w : ab_W} {a : Nat} (h : ab_isF 3 3 (w.2 a) = true) : ab_Run ab_mt 3 8 ls (.ref a :: st) w = ab_Run ab_mt 3 11 ls (ab_fv 3 (w.2 a) :: st) w := E_get rfl h
theorem e_3_11 {ls : ab_L} {st : List Value} {w : ab_W} {v0 v1 : Value} (h1 : ab_recv ab_mt 16 [v0, v1] w.2 = true) (h8 : ab_w8 st = true) : ab_Run ab_mt 3 11 ls (v1 :: v0 :: st) w = ab_aft 16 3 11 ls st (ab_Cl 16 [v0, v1] w) := E_call2 rfl h1 h8
theorem e_3_14 {ls : ab_L} {st : List Value} {w : ab_W} (h : ab_isR (ls 0) = true) : ab_Run ab_mt 3 14 ls st w = ab_Run ab_mt 3 15 ls (ab_gv (ls 0) :: st) w := E_loadr (n := 1) rfl h
theorem e_3_15 {ls : ab_L} {st : List Value} {w : ab_W} {v0 : Value} (h1 : ab_recv ab_mt 19 [v0] w.2 = true) (h8 : ab_w8 st = true) : ab_Run ab_mt 3 15 ls (v0 :: st) w = ab_aft 19 3 15 ls st (ab_Cl 19 [v0] w) := E_call1 rfl h1 h8
theorem e_3_18 {ls : ab_L} {st : List Value} {w : ab_W} (h : ab_isR (ls 0) = true) : ab_Run ab_mt 3 18 ls st w = ab_Run ab_mt 3 19 ls (ab_gv (ls 0) :: st) w := E_loadr (n := 1) rfl h
theorem e_3_19 {ls : ab_L} {st : List Value} {w : ab_W} {a : Nat} (h : ab_isF 0 3 (w.2 a) = true) : ab_Run ab_mt 3 19 ls (.ref a :: st) w = ab_Run ab_mt 3 22 ls (ab_fv 3 (w.2 a) :: st) w := E_get rfl h
theorem e_3_22 {ls : ab_L} {st : List Value} {w : ab_W} (h : ab_isR (ls 0) = true) : ab_Run ab_mt 3 22 ls st w = ab_Run ab_mt 3 23 ls (ab_gv (ls 0) :: st) w := E_loadr (n := 1) rfl h
theorem e_3_23 {ls : ab_L} {st : List Value} {w : ab_W} {a : Nat} (h : ab_isF 0 1 (w.2 a) = true) : ab_Run ab_mt 3 23 ls (.ref a :: st) w = ab_Run ab_mt 3 26 ls (ab_fv 1 (w.2 a) :: st) w := E_get rfl h
theorem e_3_26 {ls : ab_L} {st : List Value} {w : ab_W} {v0 v1 : Value} (h1 : ab_recv ab_mt 60 [v0, v1] w.2 = true) (h8 : ab_w8 st = true) : ab_Run ab_mt 3 26 ls (v1 :: v0 :: st) w = ab_aft 60 3 26 ls st (ab_Cl 60 [v0, v1] w) := E_call2 rfl h1 h8
theorem e_3_29 {ls : ab_L} {st : List Value} {w : ab_W} (h : ab_isR (ls 0) = true) : ab_Run ab_mt 3 29 ls st w = ab_Run ab_mt 3 30 ls (ab_gv (ls 0) :: st) w := E_loadr (n := 1) rfl h
theorem e_3_30 {ls : ab_L} {st : List Value} {w : ab_W} {a : Nat} (h : ab_isF 0 1 (w.2 a) = true) : ab_Run ab_mt 3 30 ls (.ref a :: st) w = ab_Run ab_mt 3 33 ls (ab_fv 1 (w.2 a) :: st) w := E_get rfl h
theorem e_3_33 {ls : ab_L} {st : List Value} {w : ab_W} {a : Nat} (h : ab_isF 2 0 (w.2 a) = true) : ab_Run ab_mt 3 33 ls (.ref a :: st) w = ab_Run ab_mt 3 36 ls (ab_fv 0 (w.2 a) :: st) w := E_get rfl h
theorem e_3_36 {ls : ab_L} {st : List Value} {w : ab_W} (h : ab_isI (ls 1) = true) : ab_Run ab_mt 3 36 ls st w = ab_Run ab_mt 3 37 ls (ab_gv (ls 1) :: st) w := E_loadi (n := 1) rfl h
theorem e_3_37 {ls : ab_L} {st : List Value} {w : ab_W} {v0 v1 : Value} (h1 : ab_recv ab_mt 56 [v0, v1] w.2 = true) (h8 : ab_w8 st = true) : ab_Run ab_mt 3 37 ls (v1 :: v0 :: st) w = ab_aft 56 3 37 ls st (ab_Cl 56 [v0, v1] w) := E_call2 rfl h1 h8
theorem e_3_40 {ls : ab_L} {st : List Value} {w : ab_W} (h : ab_isR (ls 0) = true) : ab_Run ab_mt 3 40 ls st w = ab_Run ab_mt 3 41 ls (ab_gv (ls 0) :: st) w := E_loadr (n := 1) rfl h
theorem e_3_41 {ls : ab_L} {st : List Value} {w : ab_W} {a : Nat} (h : ab_isF 0 0 (w.2 a) = true) : ab_Run ab_mt 3 41 ls (.ref a :: st) w = ab_Run ab_mt 3 44 ls (ab_fv 0 (w.2 a) :: st) w := E_get rfl h
theorem e_3_44 {ls : ab_L} {st : List Value} {w : ab_W} {v0 : Value} (h1 : ab_recv ab_mt 27 [v0] w.2 = true) (h8 : ab_w8 st = true) : ab_Run ab_mt 3 44 ls (v0 :: st) w = ab_aft 27 3 44 ls st (ab_Cl 27 [v0] w) := E_call1 rfl h1 h8
theorem e_3_47 {ls : ab_L} {st : List Value} {w : ab_W} (h : ab_isR (ls 0) = true) : ab_Run ab_mt 3 47 ls st w = ab_Run ab_mt 3 48 ls (ab_gv (ls 0) :: st) w := E_loadr (n := 1) rfl h
theorem e_3_48 {ls : ab_L} {st : List Value} {w : ab_W} {a : Nat} (h : ab_isF 0 1 (w.2 a) = true) : ab_Run ab_mt 3 48 ls (.ref a :: st) w = ab_Run ab_mt 3 51 ls (ab_fv 1 (w.2 a) :: st) w := E_get rfl h
theorem e_3_51 {ls : ab_L} {st : List Value} {w : ab_W} {a : Nat} (h : ab_isF 2 0 (w.2 a) = true) : ab_Run ab_mt 3 51 ls (.ref a :: st) w = ab_Run ab_mt 3 54 ls (ab_fv 0 (w.2 a) :: st) w := E_get rfl h
theorem e_3_54 {ls : ab_L} {st : List Value} {w : ab_W} {a : Nat} (h : ab_isF 3 3 (w.2 a) = true) : ab_Run ab_mt 3 54 ls (.ref a :: st) w = ab_Run ab_mt 3 57 ls (ab_fv 3 (w.2 a) :: st) w := E_get rfl h
theorem e_3_57 {ls : ab_L} {w : ab_W} {x : Int32} : ab_Run ab_mt 3 57 ls [.int x] w = some (.inl (some (.int x)), w) := E_reti rfl
theorem rv_3 {σ : ab_S} {t : Nat} {x0 : Int32} : ab_recv ab_mt 3 [.ref t, .int x0] σ = ab_isO 0 (σ t) := rfl
theorem x_3_11 {ls : ab_L} {rest : List Value} {E : Nat} {w : ab_W} : ab_aft 16 3 11 ls rest (some (.inr E, w)) = some (.inr E, w) := ab_aft_x rfl rfl (by unfold ab_hand; rfl)
theorem x_3_15 {ls : ab_L} {rest : List Value} {E : Nat} {w : ab_W} : ab_aft 19 3 15 ls rest (some (.inr E, w)) = some (.inr E, w) := ab_aft_x rfl rfl (by unfold ab_hand; rfl)
theorem x_3_44 {ls : ab_L} {rest : List Value} {E : Nat} {w : ab_W} : ab_aft 27 3 44 ls rest (some (.inr E, w)) = some (.inr E, w) := ab_aft_x rfl rfl (by unfold ab_hand; rfl)
theorem e_4_0 {ls : ab_L} {st : List Value} {w : ab_W} (h : ab_isI (ls 1) = true) : ab_Run ab_mt 4 0 ls st w = ab_Run ab_mt 4 1 ls (ab_gv (ls 1) :: st) w := E_loadi (n := 1) rfl h
theorem e_4_1 {ls : ab_L} {st : List Value} {w : ab_W} {x : Int32} : ab_Run ab_mt 4 1 ls (.int x :: st) w = ab_Run ab_mt 4 2 ls (.long x.toInt64 :: st) w := E_i2l rfl
theorem e_4_2 {ls : ab_L} {st : List Value} {w : ab_W} : ab_Run ab_mt 4 2 ls st w = ab_Run ab_mt 4 3 ls (.long (lN 0) :: st) w := E_push (n := 1) rfl
theorem e_4_3 {ls : ab_L} {st : List Value} {w : ab_W} : ab_Run ab_mt 4 3 ls st w = ab_Run ab_mt 4 6 ls (.long (lN 287) :: st) w := E_push (n := 3) rfl
theorem e_4_6 {ls : ab_L} {st : List Value} {w : ab_W} {v0 v1 v2 : Value} (h1 : ab_recv ab_mt 17 [v0, v1, v2] w.2 = true) (h8 : ab_w8 st = true) : ab_Run ab_mt 4 6 ls (v2 :: v1 :: v0 :: st) w = ab_aft 17 4 6 ls st (ab_Cl 17 [v0, v1, v2] w) := E_call3 rfl h1 h8
theorem e_4_9 {ls : ab_L} {st : List Value} {w : ab_W} (h : ab_isI (ls 2) = true) : ab_Run ab_mt 4 9 ls st w = ab_Run ab_mt 4 10 ls (ab_gv (ls 2) :: st) w := E_loadi (n := 1) rfl h
theorem e_4_10 {ls : ab_L} {st : List Value} {w : ab_W} {x : Int32} : ab_Run ab_mt 4 10 ls (.int x :: st) w = ab_Run ab_mt 4 11 ls (.long x.toInt64 :: st) w := E_i2l rfl
theorem e_4_11 {ls : ab_L} {st : List Value} {w : ab_W} : ab_Run ab_mt 4 11 ls st w = ab_Run ab_mt 4 14 ls (.long (lN 200) :: st) w := E_push (n := 3) rfl
theorem e_4_14 {ls : ab_L} {st : List Value} {w : ab_W} : ab_Run ab_mt 4 14 ls st w = ab_Run ab_mt 4 17 ls (.long (lN 4000) :: st) w := E_push (n := 3) rfl
theorem e_4_17 {ls : ab_L} {st : List Value} {w : ab_W} {v0 v1 v2 : Value} (h1 : ab_recv ab_mt 17 [v0, v1, v2] w.2 = true) (h8 : ab_w8 st = true) : ab_Run ab_mt 4 17 ls (v2 :: v1 :: v0 :: st) w = ab_aft 17 4 17 ls st (ab_Cl 17 [v0, v1, v2] w) := E_call3 rfl h1 h8
theorem e_4_20 {ls : ab_L} {st : List Value} {w : ab_W} (h : ab_isR (ls 0) = true) : ab_Run ab_mt 4 20 ls st w = ab_Run ab_mt 4 21 ls (ab_gv (ls 0) :: st) w := E_loadr (n := 1) rfl h
theorem e_4_21 {ls : ab_L} {st : List Value} {w : ab_W} {v0 : Value} (h1 : ab_recv ab_mt 19 [v0] w.2 = true) (h8 : ab_w8 st = true) : ab_Run ab_mt 4 21 ls (v0 :: st) w = ab_aft 19 4 21 ls st (ab_Cl 19 [v0] w) := E_call1 rfl h1 h8
theorem e_4_24 {ls : ab_L} {st : List Value} {w : ab_W} (h : ab_isR (ls 0) = true) : ab_Run ab_mt 4 24 ls st w = ab_Run ab_mt 4 25 ls (ab_gv (ls 0) :: st) w := E_loadr (n := 1) rfl h
theorem e_4_25 {ls : ab_L} {st : List Value} {w : ab_W} {a : Nat} (h : ab_isF 0 1 (w.2 a) = true) : ab_Run ab_mt 4 25 ls (.ref a :: st) w = ab_Run ab_mt 4 28 ls (ab_fv 1 (w.2 a) :: st) w := E_get rfl h
theorem e_4_28 {ls : ab_L} {st : List Value} {w : ab_W} {a : Nat} (h : ab_isF 2 1 (w.2 a) = true) : ab_Run ab_mt 4 28 ls (.ref a :: st) w = ab_Run ab_mt 4 31 ls (ab_fv 1 (w.2 a) :: st) w := E_get rfl h
theorem e_4_31 {ls : ab_L} {st : List Value} {w : ab_W} (h : ab_isR (ls 0) = true) : ab_Run ab_mt 4 31 ls st w = ab_Run ab_mt 4 32 ls (ab_gv (ls 0) :: st) w := E_loadr (n := 1) rfl h
theorem e_4_32 {ls : ab_L} {st : List Value} {w : ab_W} {a : Nat} (h : ab_isF 0 1 (w.2 a) = true) : ab_Run ab_mt 4 32 ls (.ref a :: st) w = ab_Run ab_mt 4 35 ls (ab_fv 1 (w.2 a) :: st) w := E_get rfl h
theorem e_4_35 {ls : ab_L} {st : List Value} {w : ab_W} {a : Nat} (h : ab_isF 2 1 (w.2 a) = true) : ab_Run ab_mt 4 35 ls (.ref a :: st) w = ab_Run ab_mt 4 38 ls (ab_fv 1 (w.2 a) :: st) w := E_get rfl h
theorem e_4_38 {ls : ab_L} {st : List Value} {w : ab_W} (h : ab_isI (ls 1) = true) : ab_Run ab_mt 4 38 ls st w = ab_Run ab_mt 4 39 ls (ab_gv (ls 1) :: st) w := E_loadi (n := 1) rfl h
theorem e_4_39 {ls : ab_L} {st : List Value} {w : ab_W} {v0 v1 : Value} (h1 : ab_recv ab_mt 22 [v0, v1] w.2 = true) (h8 : ab_w8 st = true) : ab_Run ab_mt 4 39 ls (v1 :: v0 :: st) w = ab_aft 22 4 39 ls st (ab_Cl 22 [v0, v1] w) := E_call2 rfl h1 h8
theorem e_4_42 {ls : ab_L} {st : List Value} {w : ab_W} (h : ab_isI (ls 1) = true) : ab_Run ab_mt 4 42 ls st w = ab_Run ab_mt 4 43 ls (ab_gv (ls 1) :: st) w := E_loadi (n := 1) rfl h
theorem e_4_43 {ls : ab_L} {st : List Value} {w : ab_W} {v0 v1 v2 : Value} (h1 : ab_recv ab_mt 23 [v0, v1, v2] w.2 = true) (h8 : ab_w8 st = true) : ab_Run ab_mt 4 43 ls (v2 :: v1 :: v0 :: st) w = ab_aft 23 4 43 ls st (ab_Cl 23 [v0, v1, v2] w) := E_call3 rfl h1 h8
theorem e_4_46 {ls : ab_L} {st : List Value} {w : ab_W} {x : Int32} : ab_Run ab_mt 4 46 ls (.int x :: st) w = if x = 0 then ab_Run ab_mt 4 49 ls st w else ab_Run ab_mt 4 62 ls st w := E_if_ne rfl
theorem e_4_49 {ls : ab_L} {st : List Value} {w : ab_W} (h : ab_isR (ls 0) = true) : ab_Run ab_mt 4 49 ls st w = ab_Run ab_mt 4 50 ls (ab_gv (ls 0) :: st) w := E_loadr (n := 1) rfl h
theorem e_4_50 {ls : ab_L} {st : List Value} {w : ab_W} {a : Nat} (h : ab_isF 0 1 (w.2 a) = true) : ab_Run ab_mt 4 50 ls (.ref a :: st) w = ab_Run ab_mt 4 53 ls (ab_fv 1 (w.2 a) :: st) w := E_get rfl h
theorem e_4_53 {ls : ab_L} {st : List Value} {w : ab_W} {a : Nat} (h : ab_isF 2 1 (w.2 a) = true) : ab_Run ab_mt 4 53 ls (.ref a :: st) w = ab_Run ab_mt 4 56 ls (ab_fv 1 (w.2 a) :: st) w := E_get rfl h
theorem e_4_56 {ls : ab_L} {st : List Value} {w : ab_W} : ab_Run ab_mt 4 56 ls st w = ab_Run ab_mt 4 57 ls (.int (nI 1) :: st) w := E_push (n := 1) rfl
theorem e_4_57 {ls : ab_L} {st : List Value} {w : ab_W} : ab_Run ab_mt 4 57 ls st w = ab_Run ab_mt 4 59 ls (.int (nI 10) :: st) w := E_push (n := 2) rfl
theorem e_4_59 {ls : ab_L} {st : List Value} {w : ab_W} {v0 v1 v2 : Value} (h1 : ab_recv ab_mt 18 [v0, v1, v2] w.2 = true) (h8 : ab_w8 st = true) : ab_Run ab_mt 4 59 ls (v2 :: v1 :: v0 :: st) w = ab_aft 18 4 59 ls st (ab_Cl 18 [v0, v1, v2] w) := E_call3 rfl h1 h8
theorem e_4_62 {ls : ab_L} {st : List Value} {w : ab_W} (h : ab_isR (ls 0) = true) : ab_Run ab_mt 4 62 ls st w = ab_Run ab_mt 4 63 ls (ab_gv (ls 0) :: st) w := E_loadr (n := 1) rfl h
theorem e_4_63 {ls : ab_L} {st : List Value} {w : ab_W} {a : Nat} (h : ab_isF 0 3 (w.2 a) = true) : ab_Run ab_mt 4 63 ls (.ref a :: st) w = ab_Run ab_mt 4 66 ls (ab_fv 3 (w.2 a) :: st) w := E_get rfl h
theorem e_4_66 {ls : ab_L} {st : List Value} {w : ab_W} (h : ab_isR (ls 0) = true) : ab_Run ab_mt 4 66 ls st w = ab_Run ab_mt 4 67 ls (ab_gv (ls 0) :: st) w := E_loadr (n := 1) rfl h
theorem e_4_67 {ls : ab_L} {st : List Value} {w : ab_W} {a : Nat} (h : ab_isF 0 1 (w.2 a) = true) : ab_Run ab_mt 4 67 ls (.ref a :: st) w = ab_Run ab_mt 4 70 ls (ab_fv 1 (w.2 a) :: st) w := E_get rfl h
theorem e_4_70 {ls : ab_L} {st : List Value} {w : ab_W} {v0 v1 : Value} (h1 : ab_recv ab_mt 60 [v0, v1] w.2 = true) (h8 : ab_w8 st = true) : ab_Run ab_mt 4 70 ls (v1 :: v0 :: st) w = ab_aft 60 4 70 ls st (ab_Cl 60 [v0, v1] w) := E_call2 rfl h1 h8
theorem e_4_73 {ls : ab_L} {st : List Value} {w : ab_W} (h : ab_isR (ls 0) = true) : ab_Run ab_mt 4 73 ls st w = ab_Run ab_mt 4 74 ls (ab_gv (ls 0) :: st) w := E_loadr (n := 1) rfl h
theorem e_4_74 {ls : ab_L} {st : List Value} {w : ab_W} {a : Nat} (h : ab_isF 0 1 (w.2 a) = true) : ab_Run ab_mt 4 74 ls (.ref a :: st) w = ab_Run ab_mt 4 77 ls (ab_fv 1 (w.2 a) :: st) w := E_get rfl h
theorem e_4_77 {ls : ab_L} {st : List Value} {w : ab_W} {a : Nat} (h : ab_isF 2 1 (w.2 a) = true) : ab_Run ab_mt 4 77 ls (.ref a :: st) w = ab_Run ab_mt 4 80 ls (ab_fv 1 (w.2 a) :: st) w := E_get rfl h
theorem e_4_80 {ls : ab_L} {st : List Value} {w : ab_W} (h : ab_isI (ls 1) = true) : ab_Run ab_mt 4 80 ls st w = ab_Run ab_mt 4 81 ls (ab_gv (ls 1) :: st) w := E_loadi (n := 1) rfl h
theorem e_4_81 {ls : ab_L} {st : List Value} {w : ab_W} (h : ab_isI (ls 2) = true) : ab_Run ab_mt 4 81 ls st w = ab_Run ab_mt 4 82 ls (ab_gv (ls 2) :: st) w := E_loadi (n := 1) rfl h
theorem e_4_82 {ls : ab_L} {st : List Value} {w : ab_W} (h : ab_isI (ls 3) = true) : ab_Run ab_mt 4 82 ls st w = ab_Run ab_mt 4 83 ls (ab_gv (ls 3) :: st) w := E_loadi (n := 1) rfl h
theorem e_4_83 {ls : ab_L} {st : List Value} {w : ab_W} {v0 v1 v2 v3 : Value} (h1 : ab_recv ab_mt 24 [v0, v1, v2, v3] w.2 = true) (h8 : ab_w8 st = true) : ab_Run ab_mt 4 83 ls (v3 :: v2 :: v1 :: v0 :: st) w = ab_aft 24 4 83 ls st (ab_Cl 24 [v0, v1, v2, v3] w) := E_call4 rfl h1 h8
theorem e_4_86 {ls : ab_L} {st : List Value} {w : ab_W} (h : ab_isR (ls 0) = true) : ab_Run ab_mt 4 86 ls st w = ab_Run ab_mt 4 87 ls (ab_gv (ls 0) :: st) w := E_loadr (n := 1) rfl h
theorem e_4_87 {ls : ab_L} {st : List Value} {w : ab_W} {a : Nat} (h : ab_isF 0 0 (w.2 a) = true) : ab_Run ab_mt 4 87 ls (.ref a :: st) w = ab_Run ab_mt 4 90 ls (ab_fv 0 (w.2 a) :: st) w := E_get rfl h
theorem e_4_90 {ls : ab_L} {st : List Value} {w : ab_W} {v0 : Value} (h1 : ab_recv ab_mt 27 [v0] w.2 = true) (h8 : ab_w8 st = true) : ab_Run ab_mt 4 90 ls (v0 :: st) w = ab_aft 27 4 90 ls st (ab_Cl 27 [v0] w) := E_call1 rfl h1 h8
theorem e_4_93 {ls : ab_L} {st : List Value} {w : ab_W} (h : ab_isR (ls 0) = true) : ab_Run ab_mt 4 93 ls st w = ab_Run ab_mt 4 94 ls (ab_gv (ls 0) :: st) w := E_loadr (n := 1) rfl h
theorem e_4_94 {ls : ab_L} {st : List Value} {w : ab_W} {a : Nat} (h : ab_isF 0 1 (w.2 a) = true) : ab_Run ab_mt 4 94 ls (.ref a :: st) w = ab_Run ab_mt 4 97 ls (ab_fv 1 (w.2 a) :: st) w := E_get rfl h
theorem e_4_97 {ls : ab_L} {st : List Value} {w : ab_W} {a : Nat} (h : ab_isF 2 1 (w.2 a) = true) : ab_Run ab_mt 4 97 ls (.ref a :: st) w = ab_Run ab_mt 4 100 ls (ab_fv 1 (w.2 a) :: st) w := E_get rfl h
theorem e_4_100 {ls : ab_L} {st : List Value} {w : ab_W} {a : Nat} (h : ab_isF 3 3 (w.2 a) = true) : ab_Run ab_mt 4 100 ls (.ref a :: st) w = ab_Run ab_mt 4 103 ls (ab_fv 3 (w.2 a) :: st) w := E_get rfl h
theorem e_4_103 {ls : ab_L} {w : ab_W} {x : Int32} : ab_Run ab_mt 4 103 ls [.int x] w = some (.inl (some (.int x)), w) := E_reti rfl
theorem rv_4 {σ : ab_S} {t : Nat} {x0 : Int32} {x1 : Int32} {x2 : Int32} : ab_recv ab_mt 4 [.ref t, .int x0, .int x1, .int x2] σ = ab_isO 0 (σ t) := rfl
theorem x_4_6 {ls : ab_L} {rest : List Value} {E : Nat} {w : ab_W} : ab_aft 17 4 6 ls rest (some (.inr E, w)) = some (.inr E, w) := ab_aft_x rfl rfl (by unfold ab_hand; rfl)
theorem x_4_17 {ls : ab_L} {rest : List Value} {E : Nat} {w : ab_W} : ab_aft 17 4 17 ls rest (some (.inr E, w)) = some (.inr E, w) := ab_aft_x rfl rfl (by unfold ab_hand; rfl)
theorem x_4_21 {ls : ab_L} {rest : List Value} {E : Nat} {w : ab_W} : ab_aft 19 4 21 ls rest (some (.inr E, w)) = some (.inr E, w) := ab_aft_x rfl rfl (by unfold ab_hand; rfl)
theorem x_4_59 {ls : ab_L} {rest : List Value} {E : Nat} {w : ab_W} : ab_aft 18 4 59 ls rest (some (.inr E, w)) = some (.inr E, w) := ab_aft_x rfl rfl (by unfold ab_hand; rfl)
theorem x_4_90 {ls : ab_L} {rest : List Value} {E : Nat} {w : ab_W} : ab_aft 27 4 90 ls rest (some (.inr E, w)) = some (.inr E, w) := ab_aft_x rfl rfl (by unfold ab_hand; rfl)
theorem e_5_0 {ls : ab_L} {st : List Value} {w : ab_W} (h : ab_isI (ls 1) = true) : ab_Run ab_mt 5 0 ls st w = ab_Run ab_mt 5 1 ls (ab_gv (ls 1) :: st) w := E_loadi (n := 1) rfl h
theorem e_5_1 {ls : ab_L} {st : List Value} {w : ab_W} (h : ab_isR (ls 0) = true) : ab_Run ab_mt 5 1 ls st w = ab_Run ab_mt 5 2 ls (ab_gv (ls 0) :: st) w := E_loadr (n := 1) rfl h
theorem e_5_2 {ls : ab_L} {st : List Value} {w : ab_W} {a : Nat} (h : ab_isF 0 1 (w.2 a) = true) : ab_Run ab_mt 5 2 ls (.ref a :: st) w = ab_Run ab_mt 5 5 ls (ab_fv 1 (w.2 a) :: st) w := E_get rfl h
theorem e_5_5 {ls : ab_L} {st : List Value} {w : ab_W} {a : Nat} (h : ab_isF 2 1 (w.2 a) = true) : ab_Run ab_mt 5 5 ls (.ref a :: st) w = ab_Run ab_mt 5 8 ls (ab_fv 1 (w.2 a) :: st) w := E_get rfl h
theorem e_5_8 {ls : ab_L} {st : List Value} {w : ab_W} {a : Nat} (h : ab_isF 3 3 (w.2 a) = true) : ab_Run ab_mt 5 8 ls (.ref a :: st) w = ab_Run ab_mt 5 11 ls (ab_fv 3 (w.2 a) :: st) w := E_get rfl h
theorem e_5_11 {ls : ab_L} {st : List Value} {w : ab_W} {v0 v1 : Value} (h1 : ab_recv ab_mt 16 [v0, v1] w.2 = true) (h8 : ab_w8 st = true) : ab_Run ab_mt 5 11 ls (v1 :: v0 :: st) w = ab_aft 16 5 11 ls st (ab_Cl 16 [v0, v1] w) := E_call2 rfl h1 h8
theorem e_5_14 {ls : ab_L} {st : List Value} {w : ab_W} (h : ab_isR (ls 0) = true) : ab_Run ab_mt 5 14 ls st w = ab_Run ab_mt 5 15 ls (ab_gv (ls 0) :: st) w := E_loadr (n := 1) rfl h
theorem e_5_15 {ls : ab_L} {st : List Value} {w : ab_W} {v0 : Value} (h1 : ab_recv ab_mt 19 [v0] w.2 = true) (h8 : ab_w8 st = true) : ab_Run ab_mt 5 15 ls (v0 :: st) w = ab_aft 19 5 15 ls st (ab_Cl 19 [v0] w) := E_call1 rfl h1 h8
theorem e_5_18 {ls : ab_L} {st : List Value} {w : ab_W} (h : ab_isR (ls 0) = true) : ab_Run ab_mt 5 18 ls st w = ab_Run ab_mt 5 19 ls (ab_gv (ls 0) :: st) w := E_loadr (n := 1) rfl h
theorem e_5_19 {ls : ab_L} {st : List Value} {w : ab_W} {a : Nat} (h : ab_isF 0 3 (w.2 a) = true) : ab_Run ab_mt 5 19 ls (.ref a :: st) w = ab_Run ab_mt 5 22 ls (ab_fv 3 (w.2 a) :: st) w := E_get rfl h
theorem e_5_22 {ls : ab_L} {st : List Value} {w : ab_W} (h : ab_isR (ls 0) = true) : ab_Run ab_mt 5 22 ls st w = ab_Run ab_mt 5 23 ls (ab_gv (ls 0) :: st) w := E_loadr (n := 1) rfl h
theorem e_5_23 {ls : ab_L} {st : List Value} {w : ab_W} {a : Nat} (h : ab_isF 0 1 (w.2 a) = true) : ab_Run ab_mt 5 23 ls (.ref a :: st) w = ab_Run ab_mt 5 26 ls (ab_fv 1 (w.2 a) :: st) w := E_get rfl h
theorem e_5_26 {ls : ab_L} {st : List Value} {w : ab_W} {v0 v1 : Value} (h1 : ab_recv ab_mt 60 [v0, v1] w.2 = true) (h8 : ab_w8 st = true) : ab_Run ab_mt 5 26 ls (v1 :: v0 :: st) w = ab_aft 60 5 26 ls st (ab_Cl 60 [v0, v1] w) := E_call2 rfl h1 h8
theorem e_5_29 {ls : ab_L} {st : List Value} {w : ab_W} (h : ab_isR (ls 0) = true) : ab_Run ab_mt 5 29 ls st w = ab_Run ab_mt 5 30 ls (ab_gv (ls 0) :: st) w := E_loadr (n := 1) rfl h
theorem e_5_30 {ls : ab_L} {st : List Value} {w : ab_W} {a : Nat} (h : ab_isF 0 1 (w.2 a) = true) : ab_Run ab_mt 5 30 ls (.ref a :: st) w = ab_Run ab_mt 5 33 ls (ab_fv 1 (w.2 a) :: st) w := E_get rfl h
theorem e_5_33 {ls : ab_L} {st : List Value} {w : ab_W} {a : Nat} (h : ab_isF 2 1 (w.2 a) = true) : ab_Run ab_mt 5 33 ls (.ref a :: st) w = ab_Run ab_mt 5 36 ls (ab_fv 1 (w.2 a) :: st) w := E_get rfl h
theorem e_5_36 {ls : ab_L} {st : List Value} {w : ab_W} (h : ab_isI (ls 1) = true) : ab_Run ab_mt 5 36 ls st w = ab_Run ab_mt 5 37 ls (ab_gv (ls 1) :: st) w := E_loadi (n := 1) rfl h
theorem e_5_37 {ls : ab_L} {st : List Value} {w : ab_W} {v0 v1 : Value} (h1 : ab_recv ab_mt 56 [v0, v1] w.2 = true) (h8 : ab_w8 st = true) : ab_Run ab_mt 5 37 ls (v1 :: v0 :: st) w = ab_aft 56 5 37 ls st (ab_Cl 56 [v0, v1] w) := E_call2 rfl h1 h8
theorem e_5_40 {ls : ab_L} {st : List Value} {w : ab_W} (h : ab_isR (ls 0) = true) : ab_Run ab_mt 5 40 ls st w = ab_Run ab_mt 5 41 ls (ab_gv (ls 0) :: st) w := E_loadr (n := 1) rfl h
theorem e_5_41 {ls : ab_L} {st : List Value} {w : ab_W} {a : Nat} (h : ab_isF 0 0 (w.2 a) = true) : ab_Run ab_mt 5 41 ls (.ref a :: st) w = ab_Run ab_mt 5 44 ls (ab_fv 0 (w.2 a) :: st) w := E_get rfl h
theorem e_5_44 {ls : ab_L} {st : List Value} {w : ab_W} {v0 : Value} (h1 : ab_recv ab_mt 27 [v0] w.2 = true) (h8 : ab_w8 st = true) : ab_Run ab_mt 5 44 ls (v0 :: st) w = ab_aft 27 5 44 ls st (ab_Cl 27 [v0] w) := E_call1 rfl h1 h8
theorem e_5_47 {ls : ab_L} {st : List Value} {w : ab_W} (h : ab_isR (ls 0) = true) : ab_Run ab_mt 5 47 ls st w = ab_Run ab_mt 5 48 ls (ab_gv (ls 0) :: st) w := E_loadr (n := 1) rfl h
theorem e_5_48 {ls : ab_L} {st : List Value} {w : ab_W} {a : Nat} (h : ab_isF 0 1 (w.2 a) = true) : ab_Run ab_mt 5 48 ls (.ref a :: st) w = ab_Run ab_mt 5 51 ls (ab_fv 1 (w.2 a) :: st) w := E_get rfl h
theorem e_5_51 {ls : ab_L} {st : List Value} {w : ab_W} {a : Nat} (h : ab_isF 2 1 (w.2 a) = true) : ab_Run ab_mt 5 51 ls (.ref a :: st) w = ab_Run ab_mt 5 54 ls (ab_fv 1 (w.2 a) :: st) w := E_get rfl h
theorem e_5_54 {ls : ab_L} {st : List Value} {w : ab_W} {a : Nat} (h : ab_isF 3 3 (w.2 a) = true) : ab_Run ab_mt 5 54 ls (.ref a :: st) w = ab_Run ab_mt 5 57 ls (ab_fv 3 (w.2 a) :: st) w := E_get rfl h
theorem e_5_57 {ls : ab_L} {w : ab_W} {x : Int32} : ab_Run ab_mt 5 57 ls [.int x] w = some (.inl (some (.int x)), w) := E_reti rfl
theorem rv_5 {σ : ab_S} {t : Nat} {x0 : Int32} : ab_recv ab_mt 5 [.ref t, .int x0] σ = ab_isO 0 (σ t) := rfl
theorem x_5_11 {ls : ab_L} {rest : List Value} {E : Nat} {w : ab_W} : ab_aft 16 5 11 ls rest (some (.inr E, w)) = some (.inr E, w) := ab_aft_x rfl rfl (by unfold ab_hand; rfl)
theorem x_5_15 {ls : ab_L} {rest : List Value} {E : Nat} {w : ab_W} : ab_aft 19 5 15 ls rest (some (.inr E, w)) = some (.inr E, w) := ab_aft_x rfl rfl (by unfold ab_hand; rfl)
theorem x_5_44 {ls : ab_L} {rest : List Value} {E : Nat} {w : ab_W} : ab_aft 27 5 44 ls rest (some (.inr E, w)) = some (.inr E, w) := ab_aft_x rfl rfl (by unfold ab_hand; rfl)
theorem e_6_0 {ls : ab_L} {st : List Value} {w : ab_W} (h : ab_isI (ls 1) = true) : ab_Run ab_mt 6 0 ls st w = ab_Run ab_mt 6 1 ls (ab_gv (ls 1) :: st) w := E_loadi (n := 1) rfl h
theorem e_6_1 {ls : ab_L} {st : List Value} {w : ab_W} (h : ab_isR (ls 0) = true) : ab_Run ab_mt 6 1 ls st w = ab_Run ab_mt 6 2 ls (ab_gv (ls 0) :: st) w := E_loadr (n := 1) rfl h
theorem e_6_2 {ls : ab_L} {st : List Value} {w : ab_W} {a : Nat} (h : ab_isF 0 0 (w.2 a) = true) : ab_Run ab_mt 6 2 ls (.ref a :: st) w = ab_Run ab_mt 6 5 ls (ab_fv 0 (w.2 a) :: st) w := E_get rfl h
theorem e_6_5 {ls : ab_L} {st : List Value} {w : ab_W} {a : Nat} (h : ab_isF 1 6 (w.2 a) = true) : ab_Run ab_mt 6 5 ls (.ref a :: st) w = ab_Run ab_mt 6 8 ls (ab_fv 6 (w.2 a) :: st) w := E_get rfl h
theorem e_6_8 {ls : ab_L} {st : List Value} {w : ab_W} {v0 v1 : Value} (h1 : ab_recv ab_mt 16 [v0, v1] w.2 = true) (h8 : ab_w8 st = true) : ab_Run ab_mt 6 8 ls (v1 :: v0 :: st) w = ab_aft 16 6 8 ls st (ab_Cl 16 [v0, v1] w) := E_call2 rfl h1 h8
theorem e_6_11 {ls : ab_L} {st : List Value} {w : ab_W} (h : ab_isI (ls 2) = true) : ab_Run ab_mt 6 11 ls st w = ab_Run ab_mt 6 12 ls (ab_gv (ls 2) :: st) w := E_loadi (n := 1) rfl h
theorem e_6_12 {ls : ab_L} {st : List Value} {w : ab_W} {x : Int32} : ab_Run ab_mt 6 12 ls (.int x :: st) w = ab_Run ab_mt 6 13 ls (.long x.toInt64 :: st) w := E_i2l rfl
theorem e_6_13 {ls : ab_L} {st : List Value} {w : ab_W} : ab_Run ab_mt 6 13 ls st w = ab_Run ab_mt 6 14 ls (.long (lN 0) :: st) w := E_push (n := 1) rfl
theorem e_6_14 {ls : ab_L} {st : List Value} {w : ab_W} : ab_Run ab_mt 6 14 ls st w = ab_Run ab_mt 6 17 ls (.long (lN 479) :: st) w := E_push (n := 3) rfl
theorem e_6_17 {ls : ab_L} {st : List Value} {w : ab_W} {v0 v1 v2 : Value} (h1 : ab_recv ab_mt 17 [v0, v1, v2] w.2 = true) (h8 : ab_w8 st = true) : ab_Run ab_mt 6 17 ls (v2 :: v1 :: v0 :: st) w = ab_aft 17 6 17 ls st (ab_Cl 17 [v0, v1, v2] w) := E_call3 rfl h1 h8
theorem e_6_20 {ls : ab_L} {st : List Value} {w : ab_W} (h : ab_isI (ls 3) = true) : ab_Run ab_mt 6 20 ls st w = ab_Run ab_mt 6 21 ls (ab_gv (ls 3) :: st) w := E_loadi (n := 1) rfl h
theorem e_6_21 {ls : ab_L} {st : List Value} {w : ab_W} {x : Int32} : ab_Run ab_mt 6 21 ls (.int x :: st) w = ab_Run ab_mt 6 22 ls (.long x.toInt64 :: st) w := E_i2l rfl
theorem e_6_22 {ls : ab_L} {st : List Value} {w : ab_W} : ab_Run ab_mt 6 22 ls st w = ab_Run ab_mt 6 23 ls (.long (lN 0) :: st) w := E_push (n := 1) rfl
theorem e_6_23 {ls : ab_L} {st : List Value} {w : ab_W} : ab_Run ab_mt 6 23 ls st w = ab_Run ab_mt 6 26 ls (.long (lN 5000) :: st) w := E_push (n := 3) rfl
theorem e_6_26 {ls : ab_L} {st : List Value} {w : ab_W} {v0 v1 v2 : Value} (h1 : ab_recv ab_mt 17 [v0, v1, v2] w.2 = true) (h8 : ab_w8 st = true) : ab_Run ab_mt 6 26 ls (v2 :: v1 :: v0 :: st) w = ab_aft 17 6 26 ls st (ab_Cl 17 [v0, v1, v2] w) := E_call3 rfl h1 h8
theorem e_6_29 {ls : ab_L} {st : List Value} {w : ab_W} (h : ab_isR (ls 0) = true) : ab_Run ab_mt 6 29 ls st w = ab_Run ab_mt 6 30 ls (ab_gv (ls 0) :: st) w := E_loadr (n := 1) rfl h
theorem e_6_30 {ls : ab_L} {st : List Value} {w : ab_W} {v0 : Value} (h1 : ab_recv ab_mt 19 [v0] w.2 = true) (h8 : ab_w8 st = true) : ab_Run ab_mt 6 30 ls (v0 :: st) w = ab_aft 19 6 30 ls st (ab_Cl 19 [v0] w) := E_call1 rfl h1 h8
theorem e_6_33 {ls : ab_L} {st : List Value} {w : ab_W} (h : ab_isR (ls 0) = true) : ab_Run ab_mt 6 33 ls st w = ab_Run ab_mt 6 34 ls (ab_gv (ls 0) :: st) w := E_loadr (n := 1) rfl h
theorem e_6_34 {ls : ab_L} {st : List Value} {w : ab_W} {a : Nat} (h : ab_isF 0 1 (w.2 a) = true) : ab_Run ab_mt 6 34 ls (.ref a :: st) w = ab_Run ab_mt 6 37 ls (ab_fv 1 (w.2 a) :: st) w := E_get rfl h
theorem e_6_37 {ls : ab_L} {st : List Value} {w : ab_W} {a : Nat} (h : ab_isF 2 2 (w.2 a) = true) : ab_Run ab_mt 6 37 ls (.ref a :: st) w = ab_Run ab_mt 6 40 ls (ab_fv 2 (w.2 a) :: st) w := E_get rfl h
theorem e_6_40 {ls : ab_L} {st : List Value} {w : ab_W} : ab_Run ab_mt 6 40 ls st w = ab_Run ab_mt 6 41 ls (.int (nI 1) :: st) w := E_push (n := 1) rfl
theorem e_6_41 {ls : ab_L} {st : List Value} {w : ab_W} : ab_Run ab_mt 6 41 ls st w = ab_Run ab_mt 6 43 ls (.int (nI 12) :: st) w := E_push (n := 2) rfl
theorem e_6_43 {ls : ab_L} {st : List Value} {w : ab_W} {v0 v1 v2 : Value} (h1 : ab_recv ab_mt 18 [v0, v1, v2] w.2 = true) (h8 : ab_w8 st = true) : ab_Run ab_mt 6 43 ls (v2 :: v1 :: v0 :: st) w = ab_aft 18 6 43 ls st (ab_Cl 18 [v0, v1, v2] w) := E_call3 rfl h1 h8
theorem e_6_46 {ls : ab_L} {st : List Value} {w : ab_W} (h : ab_isR (ls 0) = true) : ab_Run ab_mt 6 46 ls st w = ab_Run ab_mt 6 47 ls (ab_gv (ls 0) :: st) w := E_loadr (n := 1) rfl h
theorem e_6_47 {ls : ab_L} {st : List Value} {w : ab_W} {a : Nat} (h : ab_isF 0 3 (w.2 a) = true) : ab_Run ab_mt 6 47 ls (.ref a :: st) w = ab_Run ab_mt 6 50 ls (ab_fv 3 (w.2 a) :: st) w := E_get rfl h
theorem e_6_50 {ls : ab_L} {st : List Value} {w : ab_W} (h : ab_isR (ls 0) = true) : ab_Run ab_mt 6 50 ls st w = ab_Run ab_mt 6 51 ls (ab_gv (ls 0) :: st) w := E_loadr (n := 1) rfl h
theorem e_6_51 {ls : ab_L} {st : List Value} {w : ab_W} {a : Nat} (h : ab_isF 0 1 (w.2 a) = true) : ab_Run ab_mt 6 51 ls (.ref a :: st) w = ab_Run ab_mt 6 54 ls (ab_fv 1 (w.2 a) :: st) w := E_get rfl h
theorem e_6_54 {ls : ab_L} {st : List Value} {w : ab_W} {v0 v1 : Value} (h1 : ab_recv ab_mt 60 [v0, v1] w.2 = true) (h8 : ab_w8 st = true) : ab_Run ab_mt 6 54 ls (v1 :: v0 :: st) w = ab_aft 60 6 54 ls st (ab_Cl 60 [v0, v1] w) := E_call2 rfl h1 h8
theorem e_6_57 {ls : ab_L} {st : List Value} {w : ab_W} (h : ab_isR (ls 0) = true) : ab_Run ab_mt 6 57 ls st w = ab_Run ab_mt 6 58 ls (ab_gv (ls 0) :: st) w := E_loadr (n := 1) rfl h
theorem e_6_58 {ls : ab_L} {st : List Value} {w : ab_W} {a : Nat} (h : ab_isF 0 1 (w.2 a) = true) : ab_Run ab_mt 6 58 ls (.ref a :: st) w = ab_Run ab_mt 6 61 ls (ab_fv 1 (w.2 a) :: st) w := E_get rfl h
theorem e_6_61 {ls : ab_L} {st : List Value} {w : ab_W} {a : Nat} (h : ab_isF 2 2 (w.2 a) = true) : ab_Run ab_mt 6 61 ls (.ref a :: st) w = ab_Run ab_mt 6 64 ls (ab_fv 2 (w.2 a) :: st) w := E_get rfl h
theorem e_6_64 {ls : ab_L} {st : List Value} {w : ab_W} {a : Nat} (h : ab_isF 3 3 (w.2 a) = true) : ab_Run ab_mt 6 64 ls (.ref a :: st) w = ab_Run ab_mt 6 67 ls (ab_fv 3 (w.2 a) :: st) w := E_get rfl h
theorem e_6_67 {ls : ab_L} {st : List Value} {w : ab_W} {x : Int32} : ab_Run ab_mt 6 67 ls (.int x :: st) w = ab_Run ab_mt 6 69 (ab_l1 ls 4 (.int x)) st w := E_stori (n := 2) rfl
theorem e_6_69 {ls : ab_L} {st : List Value} {w : ab_W} (h : ab_isR (ls 0) = true) : ab_Run ab_mt 6 69 ls st w = ab_Run ab_mt 6 70 ls (ab_gv (ls 0) :: st) w := E_loadr (n := 1) rfl h
theorem e_6_70 {ls : ab_L} {st : List Value} {w : ab_W} {a : Nat} (h : ab_isF 0 1 (w.2 a) = true) : ab_Run ab_mt 6 70 ls (.ref a :: st) w = ab_Run ab_mt 6 73 ls (ab_fv 1 (w.2 a) :: st) w := E_get rfl h
theorem e_6_73 {ls : ab_L} {st : List Value} {w : ab_W} {a : Nat} (h : ab_isF 2 2 (w.2 a) = true) : ab_Run ab_mt 6 73 ls (.ref a :: st) w = ab_Run ab_mt 6 76 ls (ab_fv 2 (w.2 a) :: st) w := E_get rfl h
theorem e_6_76 {ls : ab_L} {st : List Value} {w : ab_W} (h : ab_isI (ls 4) = true) : ab_Run ab_mt 6 76 ls st w = ab_Run ab_mt 6 78 ls (ab_gv (ls 4) :: st) w := E_loadi (n := 2) rfl h
theorem e_6_78 {ls : ab_L} {st : List Value} {w : ab_W} {v0 v1 : Value} (h1 : ab_recv ab_mt 55 [v0, v1] w.2 = true) (h8 : ab_w8 st = true) : ab_Run ab_mt 6 78 ls (v1 :: v0 :: st) w = ab_aft 55 6 78 ls st (ab_Cl 55 [v0, v1] w) := E_call2 rfl h1 h8
theorem e_6_81 {ls : ab_L} {st : List Value} {w : ab_W} (h : ab_isR (ls 0) = true) : ab_Run ab_mt 6 81 ls st w = ab_Run ab_mt 6 82 ls (ab_gv (ls 0) :: st) w := E_loadr (n := 1) rfl h
theorem e_6_82 {ls : ab_L} {st : List Value} {w : ab_W} {a : Nat} (h : ab_isF 0 1 (w.2 a) = true) : ab_Run ab_mt 6 82 ls (.ref a :: st) w = ab_Run ab_mt 6 85 ls (ab_fv 1 (w.2 a) :: st) w := E_get rfl h
theorem e_6_85 {ls : ab_L} {st : List Value} {w : ab_W} {a : Nat} (h : ab_isF 2 2 (w.2 a) = true) : ab_Run ab_mt 6 85 ls (.ref a :: st) w = ab_Run ab_mt 6 88 ls (ab_fv 2 (w.2 a) :: st) w := E_get rfl h
theorem e_6_88 {ls : ab_L} {st : List Value} {w : ab_W} (h : ab_isI (ls 4) = true) : ab_Run ab_mt 6 88 ls st w = ab_Run ab_mt 6 90 ls (ab_gv (ls 4) :: st) w := E_loadi (n := 2) rfl h
theorem e_6_90 {ls : ab_L} {st : List Value} {w : ab_W} : ab_Run ab_mt 6 90 ls st w = ab_Run ab_mt 6 91 ls (.int (nI 0) :: st) w := E_push (n := 1) rfl
theorem e_6_91 {ls : ab_L} {st : List Value} {w : ab_W} (h : ab_isI (ls 1) = true) : ab_Run ab_mt 6 91 ls st w = ab_Run ab_mt 6 92 ls (ab_gv (ls 1) :: st) w := E_loadi (n := 1) rfl h
theorem e_6_92 {ls : ab_L} {st : List Value} {w : ab_W} {v0 v1 v2 v3 : Value} (h1 : ab_recv ab_mt 54 [v0, v1, v2, v3] w.2 = true) (h8 : ab_w8 st = true) : ab_Run ab_mt 6 92 ls (v3 :: v2 :: v1 :: v0 :: st) w = ab_aft 54 6 92 ls st (ab_Cl 54 [v0, v1, v2, v3] w) := E_call4 rfl h1 h8
theorem e_6_95 {ls : ab_L} {st : List Value} {w : ab_W} (h : ab_isR (ls 0) = true) : ab_Run ab_mt 6 95 ls st w = ab_Run ab_mt 6 96 ls (ab_gv (ls 0) :: st) w := E_loadr (n := 1) rfl h
theorem e_6_96 {ls : ab_L} {st : List Value} {w : ab_W} {a : Nat} (h : ab_isF 0 1 (w.2 a) = true) : ab_Run ab_mt 6 96 ls (.ref a :: st) w = ab_Run ab_mt 6 99 ls (ab_fv 1 (w.2 a) :: st) w := E_get rfl h
theorem e_6_99 {ls : ab_L} {st : List Value} {w : ab_W} {a : Nat} (h : ab_isF 2 2 (w.2 a) = true) : ab_Run ab_mt 6 99 ls (.ref a :: st) w = ab_Run ab_mt 6 102 ls (ab_fv 2 (w.2 a) :: st) w := E_get rfl h
theorem e_6_102 {ls : ab_L} {st : List Value} {w : ab_W} (h : ab_isI (ls 4) = true) : ab_Run ab_mt 6 102 ls st w = ab_Run ab_mt 6 104 ls (ab_gv (ls 4) :: st) w := E_loadi (n := 2) rfl h
theorem e_6_104 {ls : ab_L} {st : List Value} {w : ab_W} : ab_Run ab_mt 6 104 ls st w = ab_Run ab_mt 6 105 ls (.int (nI 1) :: st) w := E_push (n := 1) rfl
theorem e_6_105 {ls : ab_L} {st : List Value} {w : ab_W} (h : ab_isI (ls 2) = true) : ab_Run ab_mt 6 105 ls st w = ab_Run ab_mt 6 106 ls (ab_gv (ls 2) :: st) w := E_loadi (n := 1) rfl h
theorem e_6_106 {ls : ab_L} {st : List Value} {w : ab_W} {v0 v1 v2 v3 : Value} (h1 : ab_recv ab_mt 54 [v0, v1, v2, v3] w.2 = true) (h8 : ab_w8 st = true) : ab_Run ab_mt 6 106 ls (v3 :: v2 :: v1 :: v0 :: st) w = ab_aft 54 6 106 ls st (ab_Cl 54 [v0, v1, v2, v3] w) := E_call4 rfl h1 h8
theorem e_6_109 {ls : ab_L} {st : List Value} {w : ab_W} (h : ab_isR (ls 0) = true) : ab_Run ab_mt 6 109 ls st w = ab_Run ab_mt 6 110 ls (ab_gv (ls 0) :: st) w := E_loadr (n := 1) rfl h
theorem e_6_110 {ls : ab_L} {st : List Value} {w : ab_W} {a : Nat} (h : ab_isF 0 1 (w.2 a) = true) : ab_Run ab_mt 6 110 ls (.ref a :: st) w = ab_Run ab_mt 6 113 ls (ab_fv 1 (w.2 a) :: st) w := E_get rfl h
theorem e_6_113 {ls : ab_L} {st : List Value} {w : ab_W} {a : Nat} (h : ab_isF 2 2 (w.2 a) = true) : ab_Run ab_mt 6 113 ls (.ref a :: st) w = ab_Run ab_mt 6 116 ls (ab_fv 2 (w.2 a) :: st) w := E_get rfl h
theorem e_6_116 {ls : ab_L} {st : List Value} {w : ab_W} (h : ab_isI (ls 4) = true) : ab_Run ab_mt 6 116 ls st w = ab_Run ab_mt 6 118 ls (ab_gv (ls 4) :: st) w := E_loadi (n := 2) rfl h
theorem e_6_118 {ls : ab_L} {st : List Value} {w : ab_W} : ab_Run ab_mt 6 118 ls st w = ab_Run ab_mt 6 119 ls (.int (nI 2) :: st) w := E_push (n := 1) rfl
theorem e_6_119 {ls : ab_L} {st : List Value} {w : ab_W} (h : ab_isI (ls 3) = true) : ab_Run ab_mt 6 119 ls st w = ab_Run ab_mt 6 120 ls (ab_gv (ls 3) :: st) w := E_loadi (n := 1) rfl h
theorem e_6_120 {ls : ab_L} {st : List Value} {w : ab_W} {v0 v1 v2 v3 : Value} (h1 : ab_recv ab_mt 54 [v0, v1, v2, v3] w.2 = true) (h8 : ab_w8 st = true) : ab_Run ab_mt 6 120 ls (v3 :: v2 :: v1 :: v0 :: st) w = ab_aft 54 6 120 ls st (ab_Cl 54 [v0, v1, v2, v3] w) := E_call4 rfl h1 h8
theorem e_6_123 {ls : ab_L} {st : List Value} {w : ab_W} (h : ab_isI (ls 4) = true) : ab_Run ab_mt 6 123 ls st w = ab_Run ab_mt 6 125 ls (ab_gv (ls 4) :: st) w := E_loadi (n := 2) rfl h
theorem e_6_125 {ls : ab_L} {w : ab_W} {x : Int32} : ab_Run ab_mt 6 125 ls [.int x] w = some (.inl (some (.int x)), w) := E_reti rfl
theorem rv_6 {σ : ab_S} {t : Nat} {x0 : Int32} {x1 : Int32} {x2 : Int32} : ab_recv ab_mt 6 [.ref t, .int x0, .int x1, .int x2] σ = ab_isO 0 (σ t) := rfl
theorem x_6_8 {ls : ab_L} {rest : List Value} {E : Nat} {w : ab_W} : ab_aft 16 6 8 ls rest (some (.inr E, w)) = some (.inr E, w) := ab_aft_x rfl rfl (by unfold ab_hand; rfl)
theorem x_6_17 {ls : ab_L} {rest : List Value} {E : Nat} {w : ab_W} : ab_aft 17 6 17 ls rest (some (.inr E, w)) = some (.inr E, w) := ab_aft_x rfl rfl (by unfold ab_hand; rfl)
theorem x_6_26 {ls : ab_L} {rest : List Value} {E : Nat} {w : ab_W} : ab_aft 17 6 26 ls rest (some (.inr E, w)) = some (.inr E, w) := ab_aft_x rfl rfl (by unfold ab_hand; rfl)
theorem x_6_30 {ls : ab_L} {rest : List Value} {E : Nat} {w : ab_W} : ab_aft 19 6 30 ls rest (some (.inr E, w)) = some (.inr E, w) := ab_aft_x rfl rfl (by unfold ab_hand; rfl)
theorem x_6_43 {ls : ab_L} {rest : List Value} {E : Nat} {w : ab_W} : ab_aft 18 6 43 ls rest (some (.inr E, w)) = some (.inr E, w) := ab_aft_x rfl rfl (by unfold ab_hand; rfl)
theorem e_7_0 {ls : ab_L} {st : List Value} {w : ab_W} (h : ab_isI (ls 1) = true) : ab_Run ab_mt 7 0 ls st w = ab_Run ab_mt 7 1 ls (ab_gv (ls 1) :: st) w := E_loadi (n := 1) rfl h
theorem e_7_1 {ls : ab_L} {st : List Value} {w : ab_W} (h : ab_isR (ls 0) = true) : ab_Run ab_mt 7 1 ls st w = ab_Run ab_mt 7 2 ls (ab_gv (ls 0) :: st) w := E_loadr (n := 1) rfl h
theorem e_7_2 {ls : ab_L} {st : List Value} {w : ab_W} {a : Nat} (h : ab_isF 0 1 (w.2 a) = true) : ab_Run ab_mt 7 2 ls (.ref a :: st) w = ab_Run ab_mt 7 5 ls (ab_fv 1 (w.2 a) :: st) w := E_get rfl h
theorem e_7_5 {ls : ab_L} {st : List Value} {w : ab_W} {a : Nat} (h : ab_isF 2 2 (w.2 a) = true) : ab_Run ab_mt 7 5 ls (.ref a :: st) w = ab_Run ab_mt 7 8 ls (ab_fv 2 (w.2 a) :: st) w := E_get rfl h
theorem e_7_8 {ls : ab_L} {st : List Value} {w : ab_W} {a : Nat} (h : ab_isF 3 3 (w.2 a) = true) : ab_Run ab_mt 7 8 ls (.ref a :: st) w = ab_Run ab_mt 7 11 ls (ab_fv 3 (w.2 a) :: st) w := E_get rfl h
theorem e_7_11 {ls : ab_L} {st : List Value} {w : ab_W} {v0 v1 : Value} (h1 : ab_recv ab_mt 16 [v0, v1] w.2 = true) (h8 : ab_w8 st = true) : ab_Run ab_mt 7 11 ls (v1 :: v0 :: st) w = ab_aft 16 7 11 ls st (ab_Cl 16 [v0, v1] w) := E_call2 rfl h1 h8
theorem e_7_14 {ls : ab_L} {st : List Value} {w : ab_W} (h : ab_isR (ls 0) = true) : ab_Run ab_mt 7 14 ls st w = ab_Run ab_mt 7 15 ls (ab_gv (ls 0) :: st) w := E_loadr (n := 1) rfl h
theorem e_7_15 {ls : ab_L} {st : List Value} {w : ab_W} {v0 : Value} (h1 : ab_recv ab_mt 19 [v0] w.2 = true) (h8 : ab_w8 st = true) : ab_Run ab_mt 7 15 ls (v0 :: st) w = ab_aft 19 7 15 ls st (ab_Cl 19 [v0] w) := E_call1 rfl h1 h8
theorem e_7_18 {ls : ab_L} {st : List Value} {w : ab_W} (h : ab_isR (ls 0) = true) : ab_Run ab_mt 7 18 ls st w = ab_Run ab_mt 7 19 ls (ab_gv (ls 0) :: st) w := E_loadr (n := 1) rfl h
theorem e_7_19 {ls : ab_L} {st : List Value} {w : ab_W} {a : Nat} (h : ab_isF 0 3 (w.2 a) = true) : ab_Run ab_mt 7 19 ls (.ref a :: st) w = ab_Run ab_mt 7 22 ls (ab_fv 3 (w.2 a) :: st) w := E_get rfl h
theorem e_7_22 {ls : ab_L} {st : List Value} {w : ab_W} (h : ab_isR (ls 0) = true) : ab_Run ab_mt 7 22 ls st w = ab_Run ab_mt 7 23 ls (ab_gv (ls 0) :: st) w := E_loadr (n := 1) rfl h
theorem e_7_23 {ls : ab_L} {st : List Value} {w : ab_W} {a : Nat} (h : ab_isF 0 1 (w.2 a) = true) : ab_Run ab_mt 7 23 ls (.ref a :: st) w = ab_Run ab_mt 7 26 ls (ab_fv 1 (w.2 a) :: st) w := E_get rfl h
theorem e_7_26 {ls : ab_L} {st : List Value} {w : ab_W} {v0 v1 : Value} (h1 : ab_recv ab_mt 60 [v0, v1] w.2 = true) (h8 : ab_w8 st = true) : ab_Run ab_mt 7 26 ls (v1 :: v0 :: st) w = ab_aft 60 7 26 ls st (ab_Cl 60 [v0, v1] w) := E_call2 rfl h1 h8
theorem e_7_29 {ls : ab_L} {st : List Value} {w : ab_W} (h : ab_isR (ls 0) = true) : ab_Run ab_mt 7 29 ls st w = ab_Run ab_mt 7 30 ls (ab_gv (ls 0) :: st) w := E_loadr (n := 1) rfl h
theorem e_7_30 {ls : ab_L} {st : List Value} {w : ab_W} {a : Nat} (h : ab_isF 0 1 (w.2 a) = true) : ab_Run ab_mt 7 30 ls (.ref a :: st) w = ab_Run ab_mt 7 33 ls (ab_fv 1 (w.2 a) :: st) w := E_get rfl h
theorem e_7_33 {ls : ab_L} {st : List Value} {w : ab_W} {a : Nat} (h : ab_isF 2 2 (w.2 a) = true) : ab_Run ab_mt 7 33 ls (.ref a :: st) w = ab_Run ab_mt 7 36 ls (ab_fv 2 (w.2 a) :: st) w := E_get rfl h
theorem e_7_36 {ls : ab_L} {st : List Value} {w : ab_W} (h : ab_isI (ls 1) = true) : ab_Run ab_mt 7 36 ls st w = ab_Run ab_mt 7 37 ls (ab_gv (ls 1) :: st) w := E_loadi (n := 1) rfl h
theorem e_7_37 {ls : ab_L} {st : List Value} {w : ab_W} {v0 v1 : Value} (h1 : ab_recv ab_mt 56 [v0, v1] w.2 = true) (h8 : ab_w8 st = true) : ab_Run ab_mt 7 37 ls (v1 :: v0 :: st) w = ab_aft 56 7 37 ls st (ab_Cl 56 [v0, v1] w) := E_call2 rfl h1 h8
theorem e_7_40 {ls : ab_L} {st : List Value} {w : ab_W} (h : ab_isR (ls 0) = true) : ab_Run ab_mt 7 40 ls st w = ab_Run ab_mt 7 41 ls (ab_gv (ls 0) :: st) w := E_loadr (n := 1) rfl h
theorem e_7_41 {ls : ab_L} {st : List Value} {w : ab_W} {a : Nat} (h : ab_isF 0 1 (w.2 a) = true) : ab_Run ab_mt 7 41 ls (.ref a :: st) w = ab_Run ab_mt 7 44 ls (ab_fv 1 (w.2 a) :: st) w := E_get rfl h
theorem e_7_44 {ls : ab_L} {st : List Value} {w : ab_W} {a : Nat} (h : ab_isF 2 2 (w.2 a) = true) : ab_Run ab_mt 7 44 ls (.ref a :: st) w = ab_Run ab_mt 7 47 ls (ab_fv 2 (w.2 a) :: st) w := E_get rfl h
theorem e_7_47 {ls : ab_L} {st : List Value} {w : ab_W} {a : Nat} (h : ab_isF 3 3 (w.2 a) = true) : ab_Run ab_mt 7 47 ls (.ref a :: st) w = ab_Run ab_mt 7 50 ls (ab_fv 3 (w.2 a) :: st) w := E_get rfl h
theorem e_7_50 {ls : ab_L} {w : ab_W} {x : Int32} : ab_Run ab_mt 7 50 ls [.int x] w = some (.inl (some (.int x)), w) := E_reti rfl
theorem rv_7 {σ : ab_S} {t : Nat} {x0 : Int32} : ab_recv ab_mt 7 [.ref t, .int x0] σ = ab_isO 0 (σ t) := rfl
theorem x_7_11 {ls : ab_L} {rest : List Value} {E : Nat} {w : ab_W} : ab_aft 16 7 11 ls rest (some (.inr E, w)) = some (.inr E, w) := ab_aft_x rfl rfl (by unfold ab_hand; rfl)
theorem x_7_15 {ls : ab_L} {rest : List Value} {E : Nat} {w : ab_W} : ab_aft 19 7 15 ls rest (some (.inr E, w)) = some (.inr E, w) := ab_aft_x rfl rfl (by unfold ab_hand; rfl)
theorem e_8_0 {ls : ab_L} {st : List Value} {w : ab_W} (h : ab_isI (ls 1) = true) : ab_Run ab_mt 8 0 ls st w = ab_Run ab_mt 8 1 ls (ab_gv (ls 1) :: st) w := E_loadi (n := 1) rfl h
theorem e_8_1 {ls : ab_L} {st : List Value} {w : ab_W} (h : ab_isR (ls 0) = true) : ab_Run ab_mt 8 1 ls st w = ab_Run ab_mt 8 2 ls (ab_gv (ls 0) :: st) w := E_loadr (n := 1) rfl h
theorem e_8_2 {ls : ab_L} {st : List Value} {w : ab_W} {a : Nat} (h : ab_isF 0 1 (w.2 a) = true) : ab_Run ab_mt 8 2 ls (.ref a :: st) w = ab_Run ab_mt 8 5 ls (ab_fv 1 (w.2 a) :: st) w := E_get rfl h
theorem e_8_5 {ls : ab_L} {st : List Value} {w : ab_W} {a : Nat} (h : ab_isF 2 0 (w.2 a) = true) : ab_Run ab_mt 8 5 ls (.ref a :: st) w = ab_Run ab_mt 8 8 ls (ab_fv 0 (w.2 a) :: st) w := E_get rfl h
theorem e_8_8 {ls : ab_L} {st : List Value} {w : ab_W} {a : Nat} (h : ab_isF 3 3 (w.2 a) = true) : ab_Run ab_mt 8 8 ls (.ref a :: st) w = ab_Run ab_mt 8 11 ls (ab_fv 3 (w.2 a) :: st) w := E_get rfl h
theorem e_8_11 {ls : ab_L} {st : List Value} {w : ab_W} {v0 v1 : Value} (h1 : ab_recv ab_mt 16 [v0, v1] w.2 = true) (h8 : ab_w8 st = true) : ab_Run ab_mt 8 11 ls (v1 :: v0 :: st) w = ab_aft 16 8 11 ls st (ab_Cl 16 [v0, v1] w) := E_call2 rfl h1 h8
theorem e_8_14 {ls : ab_L} {st : List Value} {w : ab_W} (h : ab_isI (ls 2) = true) : ab_Run ab_mt 8 14 ls st w = ab_Run ab_mt 8 15 ls (ab_gv (ls 2) :: st) w := E_loadi (n := 1) rfl h
theorem e_8_15 {ls : ab_L} {st : List Value} {w : ab_W} {x : Int32} : ab_Run ab_mt 8 15 ls (.int x :: st) w = ab_Run ab_mt 8 16 ls (.long x.toInt64 :: st) w := E_i2l rfl
theorem e_8_16 {ls : ab_L} {st : List Value} {w : ab_W} : ab_Run ab_mt 8 16 ls st w = ab_Run ab_mt 8 17 ls (.long (lN 0) :: st) w := E_push (n := 1) rfl
theorem e_8_17 {ls : ab_L} {st : List Value} {w : ab_W} : ab_Run ab_mt 8 17 ls st w = ab_Run ab_mt 8 20 ls (.long (lN 5) :: st) w := E_push (n := 3) rfl
theorem e_8_20 {ls : ab_L} {st : List Value} {w : ab_W} {v0 v1 v2 : Value} (h1 : ab_recv ab_mt 17 [v0, v1, v2] w.2 = true) (h8 : ab_w8 st = true) : ab_Run ab_mt 8 20 ls (v2 :: v1 :: v0 :: st) w = ab_aft 17 8 20 ls st (ab_Cl 17 [v0, v1, v2] w) := E_call3 rfl h1 h8
theorem e_8_23 {ls : ab_L} {st : List Value} {w : ab_W} (h : ab_isI (ls 2) = true) : ab_Run ab_mt 8 23 ls st w = ab_Run ab_mt 8 24 ls (ab_gv (ls 2) :: st) w := E_loadi (n := 1) rfl h
theorem e_8_24 {ls : ab_L} {st : List Value} {w : ab_W} : ab_Run ab_mt 8 24 ls st w = ab_Run ab_mt 8 25 ls (.int (nI 5) :: st) w := E_push (n := 1) rfl
theorem e_8_25 {ls : ab_L} {st : List Value} {w : ab_W} {x y : Int32} : ab_Run ab_mt 8 25 ls (.int y :: .int x :: st) w = if x = y then ab_Run ab_mt 8 28 ls st w else ab_Run ab_mt 8 39 ls st w := E_ic_ne rfl
theorem e_8_28 {ls : ab_L} {st : List Value} {w : ab_W} (h : ab_isR (ls 0) = true) : ab_Run ab_mt 8 28 ls st w = ab_Run ab_mt 8 29 ls (ab_gv (ls 0) :: st) w := E_loadr (n := 1) rfl h
theorem e_8_29 {ls : ab_L} {st : List Value} {w : ab_W} {a : Nat} (h : ab_isF 0 0 (w.2 a) = true) : ab_Run ab_mt 8 29 ls (.ref a :: st) w = ab_Run ab_mt 8 32 ls (ab_fv 0 (w.2 a) :: st) w := E_get rfl h
theorem e_8_32 {ls : ab_L} {st : List Value} {w : ab_W} (h : ab_isI (ls 1) = true) : ab_Run ab_mt 8 32 ls st w = ab_Run ab_mt 8 33 ls (ab_gv (ls 1) :: st) w := E_loadi (n := 1) rfl h
theorem e_8_33 {ls : ab_L} {st : List Value} {w : ab_W} {v0 v1 : Value} (h1 : ab_recv ab_mt 33 [v0, v1] w.2 = true) (h8 : ab_w8 st = true) : ab_Run ab_mt 8 33 ls (v1 :: v0 :: st) w = ab_aft 33 8 33 ls st (ab_Cl 33 [v0, v1] w) := E_call2 rfl h1 h8
theorem e_8_36 {ls : ab_L} {st : List Value} {w : ab_W} : ab_Run ab_mt 8 36 ls st w = ab_Run ab_mt 8 51 ls st w := E_goto rfl
theorem e_8_39 {ls : ab_L} {st : List Value} {w : ab_W} (h : ab_isR (ls 0) = true) : ab_Run ab_mt 8 39 ls st w = ab_Run ab_mt 8 40 ls (ab_gv (ls 0) :: st) w := E_loadr (n := 1) rfl h
theorem e_8_40 {ls : ab_L} {st : List Value} {w : ab_W} {a : Nat} (h : ab_isF 0 1 (w.2 a) = true) : ab_Run ab_mt 8 40 ls (.ref a :: st) w = ab_Run ab_mt 8 43 ls (ab_fv 1 (w.2 a) :: st) w := E_get rfl h
theorem e_8_43 {ls : ab_L} {st : List Value} {w : ab_W} {a : Nat} (h : ab_isF 2 0 (w.2 a) = true) : ab_Run ab_mt 8 43 ls (.ref a :: st) w = ab_Run ab_mt 8 46 ls (ab_fv 0 (w.2 a) :: st) w := E_get rfl h
theorem e_8_46 {ls : ab_L} {st : List Value} {w : ab_W} (h : ab_isI (ls 1) = true) : ab_Run ab_mt 8 46 ls st w = ab_Run ab_mt 8 47 ls (ab_gv (ls 1) :: st) w := E_loadi (n := 1) rfl h
theorem e_8_47 {ls : ab_L} {st : List Value} {w : ab_W} (h : ab_isI (ls 2) = true) : ab_Run ab_mt 8 47 ls st w = ab_Run ab_mt 8 48 ls (ab_gv (ls 2) :: st) w := E_loadi (n := 1) rfl h
theorem e_8_48 {ls : ab_L} {st : List Value} {w : ab_W} {v0 v1 v2 : Value} (h1 : ab_recv ab_mt 53 [v0, v1, v2] w.2 = true) (h8 : ab_w8 st = true) : ab_Run ab_mt 8 48 ls (v2 :: v1 :: v0 :: st) w = ab_aft 53 8 48 ls st (ab_Cl 53 [v0, v1, v2] w) := E_call3 rfl h1 h8
theorem e_8_51 {ls : ab_L} {w : ab_W} {x : Int32} : ab_Run ab_mt 8 51 ls [.int x] w = some (.inl (some (.int x)), w) := E_reti rfl
theorem rv_8 {σ : ab_S} {t : Nat} {x0 : Int32} {x1 : Int32} : ab_recv ab_mt 8 [.ref t, .int x0, .int x1] σ = ab_isO 0 (σ t) := rfl
theorem x_8_11 {ls : ab_L} {rest : List Value} {E : Nat} {w : ab_W} : ab_aft 16 8 11 ls rest (some (.inr E, w)) = some (.inr E, w) := ab_aft_x rfl rfl (by unfold ab_hand; rfl)
theorem x_8_20 {ls : ab_L} {rest : List Value} {E : Nat} {w : ab_W} : ab_aft 17 8 20 ls rest (some (.inr E, w)) = some (.inr E, w) := ab_aft_x rfl rfl (by unfold ab_hand; rfl)
theorem e_9_0 {ls : ab_L} {st : List Value} {w : ab_W} (h : ab_isI (ls 1) = true) : ab_Run ab_mt 9 0 ls st w = ab_Run ab_mt 9 1 ls (ab_gv (ls 1) :: st) w := E_loadi (n := 1) rfl h
theorem e_9_1 {ls : ab_L} {st : List Value} {w : ab_W} (h : ab_isR (ls 0) = true) : ab_Run ab_mt 9 1 ls st w = ab_Run ab_mt 9 2 ls (ab_gv (ls 0) :: st) w := E_loadr (n := 1) rfl h
theorem e_9_2 {ls : ab_L} {st : List Value} {w : ab_W} {a : Nat} (h : ab_isF 0 0 (w.2 a) = true) : ab_Run ab_mt 9 2 ls (.ref a :: st) w = ab_Run ab_mt 9 5 ls (ab_fv 0 (w.2 a) :: st) w := E_get rfl h
theorem e_9_5 {ls : ab_L} {st : List Value} {w : ab_W} {a : Nat} (h : ab_isF 1 6 (w.2 a) = true) : ab_Run ab_mt 9 5 ls (.ref a :: st) w = ab_Run ab_mt 9 8 ls (ab_fv 6 (w.2 a) :: st) w := E_get rfl h
theorem e_9_8 {ls : ab_L} {st : List Value} {w : ab_W} {v0 v1 : Value} (h1 : ab_recv ab_mt 16 [v0, v1] w.2 = true) (h8 : ab_w8 st = true) : ab_Run ab_mt 9 8 ls (v1 :: v0 :: st) w = ab_aft 16 9 8 ls st (ab_Cl 16 [v0, v1] w) := E_call2 rfl h1 h8
theorem e_9_11 {ls : ab_L} {st : List Value} {w : ab_W} (h : ab_isI (ls 2) = true) : ab_Run ab_mt 9 11 ls st w = ab_Run ab_mt 9 12 ls (ab_gv (ls 2) :: st) w := E_loadi (n := 1) rfl h
theorem e_9_12 {ls : ab_L} {st : List Value} {w : ab_W} {x : Int32} : ab_Run ab_mt 9 12 ls (.int x :: st) w = ab_Run ab_mt 9 13 ls (.long x.toInt64 :: st) w := E_i2l rfl
theorem e_9_13 {ls : ab_L} {st : List Value} {w : ab_W} : ab_Run ab_mt 9 13 ls st w = ab_Run ab_mt 9 14 ls (.long (lN 0) :: st) w := E_push (n := 1) rfl
theorem e_9_14 {ls : ab_L} {st : List Value} {w : ab_W} : ab_Run ab_mt 9 14 ls st w = ab_Run ab_mt 9 17 ls (.long (lN 6) :: st) w := E_push (n := 3) rfl
theorem e_9_17 {ls : ab_L} {st : List Value} {w : ab_W} {v0 v1 v2 : Value} (h1 : ab_recv ab_mt 17 [v0, v1, v2] w.2 = true) (h8 : ab_w8 st = true) : ab_Run ab_mt 9 17 ls (v2 :: v1 :: v0 :: st) w = ab_aft 17 9 17 ls st (ab_Cl 17 [v0, v1, v2] w) := E_call3 rfl h1 h8
theorem e_9_20 {ls : ab_L} {st : List Value} {w : ab_W} (h : ab_isI (ls 2) = true) : ab_Run ab_mt 9 20 ls st w = ab_Run ab_mt 9 21 ls (ab_gv (ls 2) :: st) w := E_loadi (n := 1) rfl h
theorem e_9_21 {ls : ab_L} {st : List Value} {w : ab_W} {x : Int32} : ab_Run ab_mt 9 21 ls (.int x :: st) w = if x.toInt < 0 ∨ 5 < x.toInt then ab_Run ab_mt 9 117 ls st w else ab_Run ab_mt 9 (([60, 70, 80, 90, 99, 108] : List Nat).getD (x.toInt - 0).toNat 0) ls st w := E_swi rfl (by decide)
theorem e_9_60 {ls : ab_L} {st : List Value} {w : ab_W} (h : ab_isR (ls 0) = true) : ab_Run ab_mt 9 60 ls st w = ab_Run ab_mt 9 61 ls (ab_gv (ls 0) :: st) w := E_loadr (n := 1) rfl h
theorem e_9_61 {ls : ab_L} {st : List Value} {w : ab_W} {a : Nat} (h : ab_isF 0 0 (w.2 a) = true) : ab_Run ab_mt 9 61 ls (.ref a :: st) w = ab_Run ab_mt 9 64 ls (ab_fv 0 (w.2 a) :: st) w := E_get rfl h
theorem e_9_64 {ls : ab_L} {st : List Value} {w : ab_W} (h : ab_isI (ls 1) = true) : ab_Run ab_mt 9 64 ls st w = ab_Run ab_mt 9 65 ls (ab_gv (ls 1) :: st) w := E_loadi (n := 1) rfl h
theorem e_9_65 {ls : ab_L} {st : List Value} {w : ab_W} {v0 v1 : Value} (h1 : ab_recv ab_mt 34 [v0, v1] w.2 = true) (h8 : ab_w8 st = true) : ab_Run ab_mt 9 65 ls (v1 :: v0 :: st) w = ab_aft 34 9 65 ls st (ab_Cl 34 [v0, v1] w) := E_call2 rfl h1 h8
theorem e_9_68 {ls : ab_L} {st : List Value} {w : ab_W} {x : Int32} : ab_Run ab_mt 9 68 ls (.int x :: st) w = ab_Run ab_mt 9 69 ls (.long x.toInt64 :: st) w := E_i2l rfl
theorem e_9_69 {ls : ab_L} {w : ab_W} {x : Int64} : ab_Run ab_mt 9 69 ls [.long x] w = some (.inl (some (.long x)), w) := E_retl rfl
theorem e_9_70 {ls : ab_L} {st : List Value} {w : ab_W} (h : ab_isR (ls 0) = true) : ab_Run ab_mt 9 70 ls st w = ab_Run ab_mt 9 71 ls (ab_gv (ls 0) :: st) w := E_loadr (n := 1) rfl h
theorem e_9_71 {ls : ab_L} {st : List Value} {w : ab_W} {a : Nat} (h : ab_isF 0 0 (w.2 a) = true) : ab_Run ab_mt 9 71 ls (.ref a :: st) w = ab_Run ab_mt 9 74 ls (ab_fv 0 (w.2 a) :: st) w := E_get rfl h
theorem e_9_74 {ls : ab_L} {st : List Value} {w : ab_W} (h : ab_isI (ls 1) = true) : ab_Run ab_mt 9 74 ls st w = ab_Run ab_mt 9 75 ls (ab_gv (ls 1) :: st) w := E_loadi (n := 1) rfl h
theorem e_9_75 {ls : ab_L} {st : List Value} {w : ab_W} {v0 v1 : Value} (h1 : ab_recv ab_mt 35 [v0, v1] w.2 = true) (h8 : ab_w8 st = true) : ab_Run ab_mt 9 75 ls (v1 :: v0 :: st) w = ab_aft 35 9 75 ls st (ab_Cl 35 [v0, v1] w) := E_call2 rfl h1 h8
theorem e_9_78 {ls : ab_L} {st : List Value} {w : ab_W} {x : Int32} : ab_Run ab_mt 9 78 ls (.int x :: st) w = ab_Run ab_mt 9 79 ls (.long x.toInt64 :: st) w := E_i2l rfl
theorem e_9_79 {ls : ab_L} {w : ab_W} {x : Int64} : ab_Run ab_mt 9 79 ls [.long x] w = some (.inl (some (.long x)), w) := E_retl rfl
theorem e_9_80 {ls : ab_L} {st : List Value} {w : ab_W} (h : ab_isR (ls 0) = true) : ab_Run ab_mt 9 80 ls st w = ab_Run ab_mt 9 81 ls (ab_gv (ls 0) :: st) w := E_loadr (n := 1) rfl h
theorem e_9_81 {ls : ab_L} {st : List Value} {w : ab_W} {a : Nat} (h : ab_isF 0 0 (w.2 a) = true) : ab_Run ab_mt 9 81 ls (.ref a :: st) w = ab_Run ab_mt 9 84 ls (ab_fv 0 (w.2 a) :: st) w := E_get rfl h
theorem e_9_84 {ls : ab_L} {st : List Value} {w : ab_W} (h : ab_isI (ls 1) = true) : ab_Run ab_mt 9 84 ls st w = ab_Run ab_mt 9 85 ls (ab_gv (ls 1) :: st) w := E_loadi (n := 1) rfl h
theorem e_9_85 {ls : ab_L} {st : List Value} {w : ab_W} {v0 v1 : Value} (h1 : ab_recv ab_mt 36 [v0, v1] w.2 = true) (h8 : ab_w8 st = true) : ab_Run ab_mt 9 85 ls (v1 :: v0 :: st) w = ab_aft 36 9 85 ls st (ab_Cl 36 [v0, v1] w) := E_call2 rfl h1 h8
theorem e_9_88 {ls : ab_L} {st : List Value} {w : ab_W} {x : Int32} : ab_Run ab_mt 9 88 ls (.int x :: st) w = ab_Run ab_mt 9 89 ls (.long x.toInt64 :: st) w := E_i2l rfl
theorem e_9_89 {ls : ab_L} {w : ab_W} {x : Int64} : ab_Run ab_mt 9 89 ls [.long x] w = some (.inl (some (.long x)), w) := E_retl rfl
theorem e_9_90 {ls : ab_L} {st : List Value} {w : ab_W} (h : ab_isR (ls 0) = true) : ab_Run ab_mt 9 90 ls st w = ab_Run ab_mt 9 91 ls (ab_gv (ls 0) :: st) w := E_loadr (n := 1) rfl h
theorem e_9_91 {ls : ab_L} {st : List Value} {w : ab_W} {a : Nat} (h : ab_isF 0 0 (w.2 a) = true) : ab_Run ab_mt 9 91 ls (.ref a :: st) w = ab_Run ab_mt 9 94 ls (ab_fv 0 (w.2 a) :: st) w := E_get rfl h
theorem e_9_94 {ls : ab_L} {st : List Value} {w : ab_W} (h : ab_isI (ls 1) = true) : ab_Run ab_mt 9 94 ls st w = ab_Run ab_mt 9 95 ls (ab_gv (ls 1) :: st) w := E_loadi (n := 1) rfl h
theorem e_9_95 {ls : ab_L} {st : List Value} {w : ab_W} {v0 v1 : Value} (h1 : ab_recv ab_mt 37 [v0, v1] w.2 = true) (h8 : ab_w8 st = true) : ab_Run ab_mt 9 95 ls (v1 :: v0 :: st) w = ab_aft 37 9 95 ls st (ab_Cl 37 [v0, v1] w) := E_call2 rfl h1 h8
theorem e_9_98 {ls : ab_L} {w : ab_W} {x : Int64} : ab_Run ab_mt 9 98 ls [.long x] w = some (.inl (some (.long x)), w) := E_retl rfl
theorem e_9_99 {ls : ab_L} {st : List Value} {w : ab_W} (h : ab_isR (ls 0) = true) : ab_Run ab_mt 9 99 ls st w = ab_Run ab_mt 9 100 ls (ab_gv (ls 0) :: st) w := E_loadr (n := 1) rfl h
theorem e_9_100 {ls : ab_L} {st : List Value} {w : ab_W} {a : Nat} (h : ab_isF 0 0 (w.2 a) = true) : ab_Run ab_mt 9 100 ls (.ref a :: st) w = ab_Run ab_mt 9 103 ls (ab_fv 0 (w.2 a) :: st) w := E_get rfl h
theorem e_9_103 {ls : ab_L} {st : List Value} {w : ab_W} (h : ab_isI (ls 1) = true) : ab_Run ab_mt 9 103 ls st w = ab_Run ab_mt 9 104 ls (ab_gv (ls 1) :: st) w := E_loadi (n := 1) rfl h
theorem e_9_104 {ls : ab_L} {st : List Value} {w : ab_W} {v0 v1 : Value} (h1 : ab_recv ab_mt 38 [v0, v1] w.2 = true) (h8 : ab_w8 st = true) : ab_Run ab_mt 9 104 ls (v1 :: v0 :: st) w = ab_aft 38 9 104 ls st (ab_Cl 38 [v0, v1] w) := E_call2 rfl h1 h8
theorem e_9_107 {ls : ab_L} {w : ab_W} {x : Int64} : ab_Run ab_mt 9 107 ls [.long x] w = some (.inl (some (.long x)), w) := E_retl rfl
theorem e_9_108 {ls : ab_L} {st : List Value} {w : ab_W} (h : ab_isR (ls 0) = true) : ab_Run ab_mt 9 108 ls st w = ab_Run ab_mt 9 109 ls (ab_gv (ls 0) :: st) w := E_loadr (n := 1) rfl h
theorem e_9_109 {ls : ab_L} {st : List Value} {w : ab_W} {a : Nat} (h : ab_isF 0 0 (w.2 a) = true) : ab_Run ab_mt 9 109 ls (.ref a :: st) w = ab_Run ab_mt 9 112 ls (ab_fv 0 (w.2 a) :: st) w := E_get rfl h
theorem e_9_112 {ls : ab_L} {st : List Value} {w : ab_W} (h : ab_isI (ls 1) = true) : ab_Run ab_mt 9 112 ls st w = ab_Run ab_mt 9 113 ls (ab_gv (ls 1) :: st) w := E_loadi (n := 1) rfl h
theorem e_9_113 {ls : ab_L} {st : List Value} {w : ab_W} {v0 v1 : Value} (h1 : ab_recv ab_mt 39 [v0, v1] w.2 = true) (h8 : ab_w8 st = true) : ab_Run ab_mt 9 113 ls (v1 :: v0 :: st) w = ab_aft 39 9 113 ls st (ab_Cl 39 [v0, v1] w) := E_call2 rfl h1 h8
theorem e_9_116 {ls : ab_L} {w : ab_W} {x : Int64} : ab_Run ab_mt 9 116 ls [.long x] w = some (.inl (some (.long x)), w) := E_retl rfl
theorem e_9_117 {ls : ab_L} {st : List Value} {w : ab_W} (h : ab_isR (ls 0) = true) : ab_Run ab_mt 9 117 ls st w = ab_Run ab_mt 9 118 ls (ab_gv (ls 0) :: st) w := E_loadr (n := 1) rfl h
theorem e_9_118 {ls : ab_L} {st : List Value} {w : ab_W} {a : Nat} (h : ab_isF 0 0 (w.2 a) = true) : ab_Run ab_mt 9 118 ls (.ref a :: st) w = ab_Run ab_mt 9 121 ls (ab_fv 0 (w.2 a) :: st) w := E_get rfl h
theorem e_9_121 {ls : ab_L} {st : List Value} {w : ab_W} (h : ab_isI (ls 1) = true) : ab_Run ab_mt 9 121 ls st w = ab_Run ab_mt 9 122 ls (ab_gv (ls 1) :: st) w := E_loadi (n := 1) rfl h
theorem e_9_122 {ls : ab_L} {st : List Value} {w : ab_W} {v0 v1 : Value} (h1 : ab_recv ab_mt 40 [v0, v1] w.2 = true) (h8 : ab_w8 st = true) : ab_Run ab_mt 9 122 ls (v1 :: v0 :: st) w = ab_aft 40 9 122 ls st (ab_Cl 40 [v0, v1] w) := E_call2 rfl h1 h8
theorem e_9_125 {ls : ab_L} {st : List Value} {w : ab_W} {x : Int32} : ab_Run ab_mt 9 125 ls (.int x :: st) w = ab_Run ab_mt 9 126 ls (.long x.toInt64 :: st) w := E_i2l rfl
theorem e_9_126 {ls : ab_L} {w : ab_W} {x : Int64} : ab_Run ab_mt 9 126 ls [.long x] w = some (.inl (some (.long x)), w) := E_retl rfl
theorem rv_9 {σ : ab_S} {t : Nat} {x0 : Int32} {x1 : Int32} : ab_recv ab_mt 9 [.ref t, .int x0, .int x1] σ = ab_isO 0 (σ t) := rfl
theorem x_9_8 {ls : ab_L} {rest : List Value} {E : Nat} {w : ab_W} : ab_aft 16 9 8 ls rest (some (.inr E, w)) = some (.inr E, w) := ab_aft_x rfl rfl (by unfold ab_hand; rfl)
theorem x_9_17 {ls : ab_L} {rest : List Value} {E : Nat} {w : ab_W} : ab_aft 17 9 17 ls rest (some (.inr E, w)) = some (.inr E, w) := ab_aft_x rfl rfl (by unfold ab_hand; rfl)
theorem e_10_0 {ls : ab_L} {st : List Value} {w : ab_W} (h : ab_isI (ls 1) = true) : ab_Run ab_mt 10 0 ls st w = ab_Run ab_mt 10 1 ls (ab_gv (ls 1) :: st) w := E_loadi (n := 1) rfl h
theorem e_10_1 {ls : ab_L} {st : List Value} {w : ab_W} (h : ab_isR (ls 0) = true) : ab_Run ab_mt 10 1 ls st w = ab_Run ab_mt 10 2 ls (ab_gv (ls 0) :: st) w := E_loadr (n := 1) rfl h
theorem e_10_2 {ls : ab_L} {st : List Value} {w : ab_W} {a : Nat} (h : ab_isF 0 0 (w.2 a) = true) : ab_Run ab_mt 10 2 ls (.ref a :: st) w = ab_Run ab_mt 10 5 ls (ab_fv 0 (w.2 a) :: st) w := E_get rfl h
theorem e_10_5 {ls : ab_L} {st : List Value} {w : ab_W} {a : Nat} (h : ab_isF 1 6 (w.2 a) = true) : ab_Run ab_mt 10 5 ls (.ref a :: st) w = ab_Run ab_mt 10 8 ls (ab_fv 6 (w.2 a) :: st) w := E_get rfl h
theorem e_10_8 {ls : ab_L} {st : List Value} {w : ab_W} {v0 v1 : Value} (h1 : ab_recv ab_mt 16 [v0, v1] w.2 = true) (h8 : ab_w8 st = true) : ab_Run ab_mt 10 8 ls (v1 :: v0 :: st) w = ab_aft 16 10 8 ls st (ab_Cl 16 [v0, v1] w) := E_call2 rfl h1 h8
theorem e_10_11 {ls : ab_L} {st : List Value} {w : ab_W} (h : ab_isI (ls 2) = true) : ab_Run ab_mt 10 11 ls st w = ab_Run ab_mt 10 12 ls (ab_gv (ls 2) :: st) w := E_loadi (n := 1) rfl h
theorem e_10_12 {ls : ab_L} {st : List Value} {w : ab_W} (h : ab_isR (ls 0) = true) : ab_Run ab_mt 10 12 ls st w = ab_Run ab_mt 10 13 ls (ab_gv (ls 0) :: st) w := E_loadr (n := 1) rfl h
theorem e_10_13 {ls : ab_L} {st : List Value} {w : ab_W} {a : Nat} (h : ab_isF 0 0 (w.2 a) = true) : ab_Run ab_mt 10 13 ls (.ref a :: st) w = ab_Run ab_mt 10 16 ls (ab_fv 0 (w.2 a) :: st) w := E_get rfl h
theorem e_10_16 {ls : ab_L} {st : List Value} {w : ab_W} (h : ab_isI (ls 1) = true) : ab_Run ab_mt 10 16 ls st w = ab_Run ab_mt 10 17 ls (ab_gv (ls 1) :: st) w := E_loadi (n := 1) rfl h
theorem e_10_17 {ls : ab_L} {st : List Value} {w : ab_W} {v0 v1 : Value} (h1 : ab_recv ab_mt 41 [v0, v1] w.2 = true) (h8 : ab_w8 st = true) : ab_Run ab_mt 10 17 ls (v1 :: v0 :: st) w = ab_aft 41 10 17 ls st (ab_Cl 41 [v0, v1] w) := E_call2 rfl h1 h8
theorem e_10_20 {ls : ab_L} {st : List Value} {w : ab_W} {v0 v1 : Value} (h1 : ab_recv ab_mt 16 [v0, v1] w.2 = true) (h8 : ab_w8 st = true) : ab_Run ab_mt 10 20 ls (v1 :: v0 :: st) w = ab_aft 16 10 20 ls st (ab_Cl 16 [v0, v1] w) := E_call2 rfl h1 h8
theorem e_10_23 {ls : ab_L} {st : List Value} {w : ab_W} (h : ab_isR (ls 0) = true) : ab_Run ab_mt 10 23 ls st w = ab_Run ab_mt 10 24 ls (ab_gv (ls 0) :: st) w := E_loadr (n := 1) rfl h
theorem e_10_24 {ls : ab_L} {st : List Value} {w : ab_W} {a : Nat} (h : ab_isF 0 0 (w.2 a) = true) : ab_Run ab_mt 10 24 ls (.ref a :: st) w = ab_Run ab_mt 10 27 ls (ab_fv 0 (w.2 a) :: st) w := E_get rfl h
theorem e_10_27 {ls : ab_L} {st : List Value} {w : ab_W} (h : ab_isI (ls 1) = true) : ab_Run ab_mt 10 27 ls st w = ab_Run ab_mt 10 28 ls (ab_gv (ls 1) :: st) w := E_loadi (n := 1) rfl h
theorem e_10_28 {ls : ab_L} {st : List Value} {w : ab_W} (h : ab_isI (ls 2) = true) : ab_Run ab_mt 10 28 ls st w = ab_Run ab_mt 10 29 ls (ab_gv (ls 2) :: st) w := E_loadi (n := 1) rfl h
theorem e_10_29 {ls : ab_L} {st : List Value} {w : ab_W} {v0 v1 v2 : Value} (h1 : ab_recv ab_mt 42 [v0, v1, v2] w.2 = true) (h8 : ab_w8 st = true) : ab_Run ab_mt 10 29 ls (v2 :: v1 :: v0 :: st) w = ab_aft 42 10 29 ls st (ab_Cl 42 [v0, v1, v2] w) := E_call3 rfl h1 h8
theorem e_10_32 {ls : ab_L} {w : ab_W} {x : Int64} : ab_Run ab_mt 10 32 ls [.long x] w = some (.inl (some (.long x)), w) := E_retl rfl
theorem rv_10 {σ : ab_S} {t : Nat} {x0 : Int32} {x1 : Int32} : ab_recv ab_mt 10 [.ref t, .int x0, .int x1] σ = ab_isO 0 (σ t) := rfl
theorem x_10_8 {ls : ab_L} {rest : List Value} {E : Nat} {w : ab_W} : ab_aft 16 10 8 ls rest (some (.inr E, w)) = some (.inr E, w) := ab_aft_x rfl rfl (by unfold ab_hand; rfl)
theorem x_10_20 {ls : ab_L} {rest : List Value} {E : Nat} {w : ab_W} : ab_aft 16 10 20 ls rest (some (.inr E, w)) = some (.inr E, w) := ab_aft_x rfl rfl (by unfold ab_hand; rfl)
theorem e_11_0 {ls : ab_L} {st : List Value} {w : ab_W} (h : ab_isI (ls 1) = true) : ab_Run ab_mt 11 0 ls st w = ab_Run ab_mt 11 1 ls (ab_gv (ls 1) :: st) w := E_loadi (n := 1) rfl h
theorem e_11_1 {ls : ab_L} {st : List Value} {w : ab_W} (h : ab_isR (ls 0) = true) : ab_Run ab_mt 11 1 ls st w = ab_Run ab_mt 11 2 ls (ab_gv (ls 0) :: st) w := E_loadr (n := 1) rfl h
theorem e_11_2 {ls : ab_L} {st : List Value} {w : ab_W} {a : Nat} (h : ab_isF 0 1 (w.2 a) = true) : ab_Run ab_mt 11 2 ls (.ref a :: st) w = ab_Run ab_mt 11 5 ls (ab_fv 1 (w.2 a) :: st) w := E_get rfl h
theorem e_11_5 {ls : ab_L} {st : List Value} {w : ab_W} {a : Nat} (h : ab_isF 2 1 (w.2 a) = true) : ab_Run ab_mt 11 5 ls (.ref a :: st) w = ab_Run ab_mt 11 8 ls (ab_fv 1 (w.2 a) :: st) w := E_get rfl h
theorem e_11_8 {ls : ab_L} {st : List Value} {w : ab_W} {a : Nat} (h : ab_isF 3 3 (w.2 a) = true) : ab_Run ab_mt 11 8 ls (.ref a :: st) w = ab_Run ab_mt 11 11 ls (ab_fv 3 (w.2 a) :: st) w := E_get rfl h
theorem e_11_11 {ls : ab_L} {st : List Value} {w : ab_W} {v0 v1 : Value} (h1 : ab_recv ab_mt 16 [v0, v1] w.2 = true) (h8 : ab_w8 st = true) : ab_Run ab_mt 11 11 ls (v1 :: v0 :: st) w = ab_aft 16 11 11 ls st (ab_Cl 16 [v0, v1] w) := E_call2 rfl h1 h8
theorem e_11_14 {ls : ab_L} {st : List Value} {w : ab_W} (h : ab_isI (ls 2) = true) : ab_Run ab_mt 11 14 ls st w = ab_Run ab_mt 11 15 ls (ab_gv (ls 2) :: st) w := E_loadi (n := 1) rfl h
theorem e_11_15 {ls : ab_L} {st : List Value} {w : ab_W} {x : Int32} : ab_Run ab_mt 11 15 ls (.int x :: st) w = ab_Run ab_mt 11 16 ls (.long x.toInt64 :: st) w := E_i2l rfl
theorem e_11_16 {ls : ab_L} {st : List Value} {w : ab_W} : ab_Run ab_mt 11 16 ls st w = ab_Run ab_mt 11 17 ls (.long (lN 0) :: st) w := E_push (n := 1) rfl
theorem e_11_17 {ls : ab_L} {st : List Value} {w : ab_W} : ab_Run ab_mt 11 17 ls st w = ab_Run ab_mt 11 20 ls (.long (lN 2) :: st) w := E_push (n := 3) rfl
theorem e_11_20 {ls : ab_L} {st : List Value} {w : ab_W} {v0 v1 v2 : Value} (h1 : ab_recv ab_mt 17 [v0, v1, v2] w.2 = true) (h8 : ab_w8 st = true) : ab_Run ab_mt 11 20 ls (v2 :: v1 :: v0 :: st) w = ab_aft 17 11 20 ls st (ab_Cl 17 [v0, v1, v2] w) := E_call3 rfl h1 h8
theorem e_11_23 {ls : ab_L} {st : List Value} {w : ab_W} (h : ab_isR (ls 0) = true) : ab_Run ab_mt 11 23 ls st w = ab_Run ab_mt 11 24 ls (ab_gv (ls 0) :: st) w := E_loadr (n := 1) rfl h
theorem e_11_24 {ls : ab_L} {st : List Value} {w : ab_W} {a : Nat} (h : ab_isF 0 1 (w.2 a) = true) : ab_Run ab_mt 11 24 ls (.ref a :: st) w = ab_Run ab_mt 11 27 ls (ab_fv 1 (w.2 a) :: st) w := E_get rfl h
theorem e_11_27 {ls : ab_L} {st : List Value} {w : ab_W} {a : Nat} (h : ab_isF 2 1 (w.2 a) = true) : ab_Run ab_mt 11 27 ls (.ref a :: st) w = ab_Run ab_mt 11 30 ls (ab_fv 1 (w.2 a) :: st) w := E_get rfl h
theorem e_11_30 {ls : ab_L} {st : List Value} {w : ab_W} (h : ab_isI (ls 1) = true) : ab_Run ab_mt 11 30 ls st w = ab_Run ab_mt 11 31 ls (ab_gv (ls 1) :: st) w := E_loadi (n := 1) rfl h
theorem e_11_31 {ls : ab_L} {st : List Value} {w : ab_W} (h : ab_isI (ls 2) = true) : ab_Run ab_mt 11 31 ls st w = ab_Run ab_mt 11 32 ls (ab_gv (ls 2) :: st) w := E_loadi (n := 1) rfl h
theorem e_11_32 {ls : ab_L} {st : List Value} {w : ab_W} {v0 v1 v2 : Value} (h1 : ab_recv ab_mt 53 [v0, v1, v2] w.2 = true) (h8 : ab_w8 st = true) : ab_Run ab_mt 11 32 ls (v2 :: v1 :: v0 :: st) w = ab_aft 53 11 32 ls st (ab_Cl 53 [v0, v1, v2] w) := E_call3 rfl h1 h8
theorem e_11_35 {ls : ab_L} {w : ab_W} {x : Int32} : ab_Run ab_mt 11 35 ls [.int x] w = some (.inl (some (.int x)), w) := E_reti rfl
theorem rv_11 {σ : ab_S} {t : Nat} {x0 : Int32} {x1 : Int32} : ab_recv ab_mt 11 [.ref t, .int x0, .int x1] σ = ab_isO 0 (σ t) := rfl
theorem x_11_11 {ls : ab_L} {rest : List Value} {E : Nat} {w : ab_W} : ab_aft 16 11 11 ls rest (some (.inr E, w)) = some (.inr E, w) := ab_aft_x rfl rfl (by unfold ab_hand; rfl)
theorem x_11_20 {ls : ab_L} {rest : List Value} {E : Nat} {w : ab_W} : ab_aft 17 11 20 ls rest (some (.inr E, w)) = some (.inr E, w) := ab_aft_x rfl rfl (by unfold ab_hand; rfl)
theorem e_12_0 {ls : ab_L} {st : List Value} {w : ab_W} (h : ab_isI (ls 1) = true) : ab_Run ab_mt 12 0 ls st w = ab_Run ab_mt 12 1 ls (ab_gv (ls 1) :: st) w := E_loadi (n := 1) rfl h
theorem e_12_1 {ls : ab_L} {st : List Value} {w : ab_W} (h : ab_isR (ls 0) = true) : ab_Run ab_mt 12 1 ls st w = ab_Run ab_mt 12 2 ls (ab_gv (ls 0) :: st) w := E_loadr (n := 1) rfl h
theorem e_12_2 {ls : ab_L} {st : List Value} {w : ab_W} {a : Nat} (h : ab_isF 0 1 (w.2 a) = true) : ab_Run ab_mt 12 2 ls (.ref a :: st) w = ab_Run ab_mt 12 5 ls (ab_fv 1 (w.2 a) :: st) w := E_get rfl h
theorem e_12_5 {ls : ab_L} {st : List Value} {w : ab_W} {a : Nat} (h : ab_isF 2 2 (w.2 a) = true) : ab_Run ab_mt 12 5 ls (.ref a :: st) w = ab_Run ab_mt 12 8 ls (ab_fv 2 (w.2 a) :: st) w := E_get rfl h
theorem e_12_8 {ls : ab_L} {st : List Value} {w : ab_W} {a : Nat} (h : ab_isF 3 3 (w.2 a) = true) : ab_Run ab_mt 12 8 ls (.ref a :: st) w = ab_Run ab_mt 12 11 ls (ab_fv 3 (w.2 a) :: st) w := E_get rfl h
theorem e_12_11 {ls : ab_L} {st : List Value} {w : ab_W} {v0 v1 : Value} (h1 : ab_recv ab_mt 16 [v0, v1] w.2 = true) (h8 : ab_w8 st = true) : ab_Run ab_mt 12 11 ls (v1 :: v0 :: st) w = ab_aft 16 12 11 ls st (ab_Cl 16 [v0, v1] w) := E_call2 rfl h1 h8
theorem e_12_14 {ls : ab_L} {st : List Value} {w : ab_W} (h : ab_isI (ls 2) = true) : ab_Run ab_mt 12 14 ls st w = ab_Run ab_mt 12 15 ls (ab_gv (ls 2) :: st) w := E_loadi (n := 1) rfl h
theorem e_12_15 {ls : ab_L} {st : List Value} {w : ab_W} {x : Int32} : ab_Run ab_mt 12 15 ls (.int x :: st) w = ab_Run ab_mt 12 16 ls (.long x.toInt64 :: st) w := E_i2l rfl
theorem e_12_16 {ls : ab_L} {st : List Value} {w : ab_W} : ab_Run ab_mt 12 16 ls st w = ab_Run ab_mt 12 17 ls (.long (lN 0) :: st) w := E_push (n := 1) rfl
theorem e_12_17 {ls : ab_L} {st : List Value} {w : ab_W} : ab_Run ab_mt 12 17 ls st w = ab_Run ab_mt 12 20 ls (.long (lN 4) :: st) w := E_push (n := 3) rfl
theorem e_12_20 {ls : ab_L} {st : List Value} {w : ab_W} {v0 v1 v2 : Value} (h1 : ab_recv ab_mt 17 [v0, v1, v2] w.2 = true) (h8 : ab_w8 st = true) : ab_Run ab_mt 12 20 ls (v2 :: v1 :: v0 :: st) w = ab_aft 17 12 20 ls st (ab_Cl 17 [v0, v1, v2] w) := E_call3 rfl h1 h8
theorem e_12_23 {ls : ab_L} {st : List Value} {w : ab_W} (h : ab_isI (ls 2) = true) : ab_Run ab_mt 12 23 ls st w = ab_Run ab_mt 12 24 ls (ab_gv (ls 2) :: st) w := E_loadi (n := 1) rfl h
theorem e_12_24 {ls : ab_L} {st : List Value} {w : ab_W} : ab_Run ab_mt 12 24 ls st w = ab_Run ab_mt 12 25 ls (.int (nI 3) :: st) w := E_push (n := 1) rfl
theorem e_12_25 {ls : ab_L} {st : List Value} {w : ab_W} {x y : Int32} : ab_Run ab_mt 12 25 ls (.int y :: .int x :: st) w = if y ≤ x then ab_Run ab_mt 12 42 ls st w else ab_Run ab_mt 12 28 ls st w := E_ic_ge rfl
theorem e_12_28 {ls : ab_L} {st : List Value} {w : ab_W} (h : ab_isR (ls 0) = true) : ab_Run ab_mt 12 28 ls st w = ab_Run ab_mt 12 29 ls (ab_gv (ls 0) :: st) w := E_loadr (n := 1) rfl h
theorem e_12_29 {ls : ab_L} {st : List Value} {w : ab_W} {a : Nat} (h : ab_isF 0 1 (w.2 a) = true) : ab_Run ab_mt 12 29 ls (.ref a :: st) w = ab_Run ab_mt 12 32 ls (ab_fv 1 (w.2 a) :: st) w := E_get rfl h
theorem e_12_32 {ls : ab_L} {st : List Value} {w : ab_W} {a : Nat} (h : ab_isF 2 2 (w.2 a) = true) : ab_Run ab_mt 12 32 ls (.ref a :: st) w = ab_Run ab_mt 12 35 ls (ab_fv 2 (w.2 a) :: st) w := E_get rfl h
theorem e_12_35 {ls : ab_L} {st : List Value} {w : ab_W} (h : ab_isI (ls 1) = true) : ab_Run ab_mt 12 35 ls st w = ab_Run ab_mt 12 36 ls (ab_gv (ls 1) :: st) w := E_loadi (n := 1) rfl h
theorem e_12_36 {ls : ab_L} {st : List Value} {w : ab_W} (h : ab_isI (ls 2) = true) : ab_Run ab_mt 12 36 ls st w = ab_Run ab_mt 12 37 ls (ab_gv (ls 2) :: st) w := E_loadi (n := 1) rfl h
theorem e_12_37 {ls : ab_L} {st : List Value} {w : ab_W} {v0 v1 v2 : Value} (h1 : ab_recv ab_mt 53 [v0, v1, v2] w.2 = true) (h8 : ab_w8 st = true) : ab_Run ab_mt 12 37 ls (v2 :: v1 :: v0 :: st) w = ab_aft 53 12 37 ls st (ab_Cl 53 [v0, v1, v2] w) := E_call3 rfl h1 h8
theorem e_12_40 {ls : ab_L} {st : List Value} {w : ab_W} {x : Int32} : ab_Run ab_mt 12 40 ls (.int x :: st) w = ab_Run ab_mt 12 41 ls (.long x.toInt64 :: st) w := E_i2l rfl
theorem e_12_41 {ls : ab_L} {w : ab_W} {x : Int64} : ab_Run ab_mt 12 41 ls [.long x] w = some (.inl (some (.long x)), w) := E_retl rfl
theorem e_12_42 {ls : ab_L} {st : List Value} {w : ab_W} (h : ab_isI (ls 2) = true) : ab_Run ab_mt 12 42 ls st w = ab_Run ab_mt 12 43 ls (ab_gv (ls 2) :: st) w := E_loadi (n := 1) rfl h
theorem e_12_43 {ls : ab_L} {st : List Value} {w : ab_W} : ab_Run ab_mt 12 43 ls st w = ab_Run ab_mt 12 44 ls (.int (nI 3) :: st) w := E_push (n := 1) rfl
theorem e_12_44 {ls : ab_L} {st : List Value} {w : ab_W} {x y : Int32} : ab_Run ab_mt 12 44 ls (.int y :: .int x :: st) w = if x = y then ab_Run ab_mt 12 47 ls st w else ab_Run ab_mt 12 58 ls st w := E_ic_ne rfl
theorem e_12_47 {ls : ab_L} {st : List Value} {w : ab_W} (h : ab_isR (ls 0) = true) : ab_Run ab_mt 12 47 ls st w = ab_Run ab_mt 12 48 ls (ab_gv (ls 0) :: st) w := E_loadr (n := 1) rfl h
theorem e_12_48 {ls : ab_L} {st : List Value} {w : ab_W} {a : Nat} (h : ab_isF 0 0 (w.2 a) = true) : ab_Run ab_mt 12 48 ls (.ref a :: st) w = ab_Run ab_mt 12 51 ls (ab_fv 0 (w.2 a) :: st) w := E_get rfl h
theorem e_12_51 {ls : ab_L} {st : List Value} {w : ab_W} (h : ab_isI (ls 1) = true) : ab_Run ab_mt 12 51 ls st w = ab_Run ab_mt 12 52 ls (ab_gv (ls 1) :: st) w := E_loadi (n := 1) rfl h
theorem e_12_52 {ls : ab_L} {st : List Value} {w : ab_W} {v0 v1 : Value} (h1 : ab_recv ab_mt 44 [v0, v1] w.2 = true) (h8 : ab_w8 st = true) : ab_Run ab_mt 12 52 ls (v1 :: v0 :: st) w = ab_aft 44 12 52 ls st (ab_Cl 44 [v0, v1] w) := E_call2 rfl h1 h8
theorem e_12_55 {ls : ab_L} {st : List Value} {w : ab_W} : ab_Run ab_mt 12 55 ls st w = ab_Run ab_mt 12 66 ls st w := E_goto rfl
theorem e_12_58 {ls : ab_L} {st : List Value} {w : ab_W} (h : ab_isR (ls 0) = true) : ab_Run ab_mt 12 58 ls st w = ab_Run ab_mt 12 59 ls (ab_gv (ls 0) :: st) w := E_loadr (n := 1) rfl h
theorem e_12_59 {ls : ab_L} {st : List Value} {w : ab_W} {a : Nat} (h : ab_isF 0 0 (w.2 a) = true) : ab_Run ab_mt 12 59 ls (.ref a :: st) w = ab_Run ab_mt 12 62 ls (ab_fv 0 (w.2 a) :: st) w := E_get rfl h
theorem e_12_62 {ls : ab_L} {st : List Value} {w : ab_W} (h : ab_isI (ls 1) = true) : ab_Run ab_mt 12 62 ls st w = ab_Run ab_mt 12 63 ls (ab_gv (ls 1) :: st) w := E_loadi (n := 1) rfl h
theorem e_12_63 {ls : ab_L} {st : List Value} {w : ab_W} {v0 v1 : Value} (h1 : ab_recv ab_mt 45 [v0, v1] w.2 = true) (h8 : ab_w8 st = true) : ab_Run ab_mt 12 63 ls (v1 :: v0 :: st) w = ab_aft 45 12 63 ls st (ab_Cl 45 [v0, v1] w) := E_call2 rfl h1 h8
theorem e_12_66 {ls : ab_L} {w : ab_W} {x : Int64} : ab_Run ab_mt 12 66 ls [.long x] w = some (.inl (some (.long x)), w) := E_retl rfl
theorem rv_12 {σ : ab_S} {t : Nat} {x0 : Int32} {x1 : Int32} : ab_recv ab_mt 12 [.ref t, .int x0, .int x1] σ = ab_isO 0 (σ t) := rfl
theorem x_12_11 {ls : ab_L} {rest : List Value} {E : Nat} {w : ab_W} : ab_aft 16 12 11 ls rest (some (.inr E, w)) = some (.inr E, w) := ab_aft_x rfl rfl (by unfold ab_hand; rfl)
theorem x_12_20 {ls : ab_L} {rest : List Value} {E : Nat} {w : ab_W} : ab_aft 17 12 20 ls rest (some (.inr E, w)) = some (.inr E, w) := ab_aft_x rfl rfl (by unfold ab_hand; rfl)
theorem e_13_0 {ls : ab_L} {st : List Value} {w : ab_W} (h : ab_isI (ls 3) = true) : ab_Run ab_mt 13 0 ls st w = ab_Run ab_mt 13 1 ls (ab_gv (ls 3) :: st) w := E_loadi (n := 1) rfl h
theorem e_13_1 {ls : ab_L} {st : List Value} {w : ab_W} {x : Int32} : ab_Run ab_mt 13 1 ls (.int x :: st) w = ab_Run ab_mt 13 2 ls (.long x.toInt64 :: st) w := E_i2l rfl
theorem e_13_2 {ls : ab_L} {st : List Value} {w : ab_W} : ab_Run ab_mt 13 2 ls st w = ab_Run ab_mt 13 3 ls (.long (lN 0) :: st) w := E_push (n := 1) rfl
theorem e_13_3 {ls : ab_L} {st : List Value} {w : ab_W} : ab_Run ab_mt 13 3 ls st w = ab_Run ab_mt 13 6 ls (.long (lN 2) :: st) w := E_push (n := 3) rfl
theorem e_13_6 {ls : ab_L} {st : List Value} {w : ab_W} {v0 v1 v2 : Value} (h1 : ab_recv ab_mt 17 [v0, v1, v2] w.2 = true) (h8 : ab_w8 st = true) : ab_Run ab_mt 13 6 ls (v2 :: v1 :: v0 :: st) w = ab_aft 17 13 6 ls st (ab_Cl 17 [v0, v1, v2] w) := E_call3 rfl h1 h8
theorem e_13_9 {ls : ab_L} {st : List Value} {w : ab_W} (h : ab_isL (ls 1) = true) (h2 : (ls 2).isNone = true) : ab_Run ab_mt 13 9 ls st w = ab_Run ab_mt 13 10 ls (ab_gv (ls 1) :: st) w := E_loadl (n := 1) rfl h h2
theorem e_13_10 {ls : ab_L} {st : List Value} {w : ab_W} : ab_Run ab_mt 13 10 ls st w = ab_Run ab_mt 13 11 ls (.long (lN 0) :: st) w := E_push (n := 1) rfl
theorem e_13_11 {ls : ab_L} {st : List Value} {w : ab_W} {x y : Int64} : ab_Run ab_mt 13 11 ls (.long y :: .long x :: st) w = ab_Run ab_mt 13 12 ls (.int (lg_cmp x y) :: st) w := E_lcmp rfl
theorem e_13_12 {ls : ab_L} {st : List Value} {w : ab_W} {x : Int32} : ab_Run ab_mt 13 12 ls (.int x :: st) w = if x < 0 then ab_Run ab_mt 13 27 ls st w else ab_Run ab_mt 13 15 ls st w := E_if_lt rfl
theorem e_13_15 {ls : ab_L} {st : List Value} {w : ab_W} (h : ab_isL (ls 1) = true) (h2 : (ls 2).isNone = true) : ab_Run ab_mt 13 15 ls st w = ab_Run ab_mt 13 16 ls (ab_gv (ls 1) :: st) w := E_loadl (n := 1) rfl h h2
theorem e_13_16 {ls : ab_L} {st : List Value} {w : ab_W} (h : ab_isR (ls 0) = true) : ab_Run ab_mt 13 16 ls st w = ab_Run ab_mt 13 17 ls (ab_gv (ls 0) :: st) w := E_loadr (n := 1) rfl h
theorem e_13_17 {ls : ab_L} {st : List Value} {w : ab_W} {a : Nat} (h : ab_isF 0 0 (w.2 a) = true) : ab_Run ab_mt 13 17 ls (.ref a :: st) w = ab_Run ab_mt 13 20 ls (ab_fv 0 (w.2 a) :: st) w := E_get rfl h
theorem e_13_20 {ls : ab_L} {st : List Value} {w : ab_W} {a : Nat} (h : ab_isF 1 7 (w.2 a) = true) : ab_Run ab_mt 13 20 ls (.ref a :: st) w = ab_Run ab_mt 13 23 ls (ab_fv 7 (w.2 a) :: st) w := E_get rfl h
theorem e_13_23 {ls : ab_L} {st : List Value} {w : ab_W} {x y : Int64} : ab_Run ab_mt 13 23 ls (.long y :: .long x :: st) w = ab_Run ab_mt 13 24 ls (.int (lg_cmp x y) :: st) w := E_lcmp rfl
theorem e_13_24 {ls : ab_L} {st : List Value} {w : ab_W} {x : Int32} : ab_Run ab_mt 13 24 ls (.int x :: st) w = if x < 0 then ab_Run ab_mt 13 29 ls st w else ab_Run ab_mt 13 27 ls st w := E_if_lt rfl
theorem e_13_27 {ls : ab_L} {st : List Value} {w : ab_W} : ab_Run ab_mt 13 27 ls st w = ab_Run ab_mt 13 28 ls (.int (-1) :: st) w := E_push (n := 1) rfl
theorem e_13_28 {ls : ab_L} {w : ab_W} {x : Int32} : ab_Run ab_mt 13 28 ls [.int x] w = some (.inl (some (.int x)), w) := E_reti rfl
theorem e_13_29 {ls : ab_L} {st : List Value} {w : ab_W} (h : ab_isR (ls 0) = true) : ab_Run ab_mt 13 29 ls st w = ab_Run ab_mt 13 30 ls (ab_gv (ls 0) :: st) w := E_loadr (n := 1) rfl h
theorem e_13_30 {ls : ab_L} {st : List Value} {w : ab_W} {a : Nat} (h : ab_isF 0 0 (w.2 a) = true) : ab_Run ab_mt 13 30 ls (.ref a :: st) w = ab_Run ab_mt 13 33 ls (ab_fv 0 (w.2 a) :: st) w := E_get rfl h
theorem e_13_33 {ls : ab_L} {st : List Value} {w : ab_W} (h : ab_isL (ls 1) = true) (h2 : (ls 2).isNone = true) : ab_Run ab_mt 13 33 ls st w = ab_Run ab_mt 13 34 ls (ab_gv (ls 1) :: st) w := E_loadl (n := 1) rfl h h2
theorem e_13_34 {ls : ab_L} {st : List Value} {w : ab_W} {v0 v1 : Value} (h1 : ab_recv ab_mt 43 [v0, v1] w.2 = true) (h8 : ab_w8 st = true) : ab_Run ab_mt 13 34 ls (v1 :: v0 :: st) w = ab_aft 43 13 34 ls st (ab_Cl 43 [v0, v1] w) := E_call2 rfl h1 h8
theorem e_13_37 {ls : ab_L} {st : List Value} {w : ab_W} {x : Int32} : ab_Run ab_mt 13 37 ls (.int x :: st) w = ab_Run ab_mt 13 39 (ab_l1 ls 4 (.int x)) st w := E_stori (n := 2) rfl
theorem e_13_39 {ls : ab_L} {st : List Value} {w : ab_W} (h : ab_isL (ls 1) = true) (h2 : (ls 2).isNone = true) : ab_Run ab_mt 13 39 ls st w = ab_Run ab_mt 13 40 ls (ab_gv (ls 1) :: st) w := E_loadl (n := 1) rfl h h2
theorem e_13_40 {ls : ab_L} {st : List Value} {w : ab_W} (h : ab_isR (ls 0) = true) : ab_Run ab_mt 13 40 ls st w = ab_Run ab_mt 13 41 ls (ab_gv (ls 0) :: st) w := E_loadr (n := 1) rfl h
theorem e_13_41 {ls : ab_L} {st : List Value} {w : ab_W} {a : Nat} (h : ab_isF 0 0 (w.2 a) = true) : ab_Run ab_mt 13 41 ls (.ref a :: st) w = ab_Run ab_mt 13 44 ls (ab_fv 0 (w.2 a) :: st) w := E_get rfl h
theorem e_13_44 {ls : ab_L} {st : List Value} {w : ab_W} (h : ab_isI (ls 4) = true) : ab_Run ab_mt 13 44 ls st w = ab_Run ab_mt 13 46 ls (ab_gv (ls 4) :: st) w := E_loadi (n := 2) rfl h
theorem e_13_46 {ls : ab_L} {st : List Value} {w : ab_W} {v0 v1 : Value} (h1 : ab_recv ab_mt 38 [v0, v1] w.2 = true) (h8 : ab_w8 st = true) : ab_Run ab_mt 13 46 ls (v1 :: v0 :: st) w = ab_aft 38 13 46 ls st (ab_Cl 38 [v0, v1] w) := E_call2 rfl h1 h8
theorem e_13_49 {ls : ab_L} {st : List Value} {w : ab_W} {x y : Int64} : ab_Run ab_mt 13 49 ls (.long y :: .long x :: st) w = ab_Run ab_mt 13 50 ls (.long (x - y) :: st) w := E_lb (f := fun x y => x - y) rfl
theorem e_13_50 {ls : ab_L} {st : List Value} {w : ab_W} {x : Int64} : ab_Run ab_mt 13 50 ls (.long x :: st) w = ab_Run ab_mt 13 52 (ab_l2 ls 5 (.long x)) st w := E_storl (n := 2) rfl
theorem e_13_52 {ls : ab_L} {st : List Value} {w : ab_W} (h : ab_isI (ls 3) = true) : ab_Run ab_mt 13 52 ls st w = ab_Run ab_mt 13 53 ls (ab_gv (ls 3) :: st) w := E_loadi (n := 1) rfl h
theorem e_13_53 {ls : ab_L} {st : List Value} {w : ab_W} {x : Int32} : ab_Run ab_mt 13 53 ls (.int x :: st) w = if x = 0 then ab_Run ab_mt 13 56 ls st w else ab_Run ab_mt 13 59 ls st w := E_if_ne rfl
theorem e_13_56 {ls : ab_L} {st : List Value} {w : ab_W} (h : ab_isI (ls 4) = true) : ab_Run ab_mt 13 56 ls st w = ab_Run ab_mt 13 58 ls (ab_gv (ls 4) :: st) w := E_loadi (n := 2) rfl h
theorem e_13_58 {ls : ab_L} {w : ab_W} {x : Int32} : ab_Run ab_mt 13 58 ls [.int x] w = some (.inl (some (.int x)), w) := E_reti rfl
theorem e_13_59 {ls : ab_L} {st : List Value} {w : ab_W} (h : ab_isI (ls 3) = true) : ab_Run ab_mt 13 59 ls st w = ab_Run ab_mt 13 60 ls (ab_gv (ls 3) :: st) w := E_loadi (n := 1) rfl h
theorem e_13_60 {ls : ab_L} {st : List Value} {w : ab_W} : ab_Run ab_mt 13 60 ls st w = ab_Run ab_mt 13 61 ls (.int (nI 1) :: st) w := E_push (n := 1) rfl
theorem e_13_61 {ls : ab_L} {st : List Value} {w : ab_W} {x y : Int32} : ab_Run ab_mt 13 61 ls (.int y :: .int x :: st) w = if x = y then ab_Run ab_mt 13 64 ls st w else ab_Run ab_mt 13 90 ls st w := E_ic_ne rfl
theorem e_13_64 {ls : ab_L} {st : List Value} {w : ab_W} (h : ab_isL (ls 5) = true) (h2 : (ls 6).isNone = true) : ab_Run ab_mt 13 64 ls st w = ab_Run ab_mt 13 66 ls (ab_gv (ls 5) :: st) w := E_loadl (n := 2) rfl h h2
theorem e_13_66 {ls : ab_L} {st : List Value} {w : ab_W} : ab_Run ab_mt 13 66 ls st w = ab_Run ab_mt 13 69 ls (.long (lN 480) :: st) w := E_push (n := 3) rfl
theorem e_13_69 {ls : ab_L} {st : List Value} {w : ab_W} {x y : Int64} : ab_Run ab_mt 13 69 ls (.long y :: .long x :: st) w = ab_Run ab_mt 13 70 ls (.long (x * y) :: st) w := E_lb (f := fun x y => x * y) rfl
theorem e_13_70 {ls : ab_L} {st : List Value} {w : ab_W} (h : ab_isR (ls 0) = true) : ab_Run ab_mt 13 70 ls st w = ab_Run ab_mt 13 71 ls (ab_gv (ls 0) :: st) w := E_loadr (n := 1) rfl h
theorem e_13_71 {ls : ab_L} {st : List Value} {w : ab_W} {a : Nat} (h : ab_isF 0 0 (w.2 a) = true) : ab_Run ab_mt 13 71 ls (.ref a :: st) w = ab_Run ab_mt 13 74 ls (ab_fv 0 (w.2 a) :: st) w := E_get rfl h
theorem e_13_74 {ls : ab_L} {st : List Value} {w : ab_W} (h : ab_isI (ls 4) = true) : ab_Run ab_mt 13 74 ls st w = ab_Run ab_mt 13 76 ls (ab_gv (ls 4) :: st) w := E_loadi (n := 2) rfl h
theorem e_13_76 {ls : ab_L} {st : List Value} {w : ab_W} {v0 v1 : Value} (h1 : ab_recv ab_mt 39 [v0, v1] w.2 = true) (h8 : ab_w8 st = true) : ab_Run ab_mt 13 76 ls (v1 :: v0 :: st) w = ab_aft 39 13 76 ls st (ab_Cl 39 [v0, v1] w) := E_call2 rfl h1 h8
theorem e_13_79 {ls : ab_L} {st : List Value} {w : ab_W} {v0 v1 : Value} (h1 : ab_recv ab_mt 25 [v0, v1] w.2 = true) (h8 : ab_w8 st = true) : ab_Run ab_mt 13 79 ls (v1 :: v0 :: st) w = ab_aft 25 13 79 ls st (ab_Cl 25 [v0, v1] w) := E_call2 rfl h1 h8
theorem e_13_82 {ls : ab_L} {st : List Value} {w : ab_W} : ab_Run ab_mt 13 82 ls st w = ab_Run ab_mt 13 85 ls (.long (lN 480) :: st) w := E_push (n := 3) rfl
theorem e_13_85 {ls : ab_L} {st : List Value} {w : ab_W} {x y : Int64} (h8 : ab_w8 st = true) : ab_Run ab_mt 13 85 ls (.long y :: .long x :: st) w = ab_Run ab_mt 13 88 ls (.long (if y < x then y else x) :: st) w := E_minl rfl h8
theorem e_13_88 {ls : ab_L} {st : List Value} {w : ab_W} {x : Int64} : ab_Run ab_mt 13 88 ls (.long x :: st) w = ab_Run ab_mt 13 89 ls (.int x.toInt32 :: st) w := E_l2i rfl
theorem e_13_89 {ls : ab_L} {w : ab_W} {x : Int32} : ab_Run ab_mt 13 89 ls [.int x] w = some (.inl (some (.int x)), w) := E_reti rfl
theorem e_13_90 {ls : ab_L} {st : List Value} {w : ab_W} (h : ab_isL (ls 5) = true) (h2 : (ls 6).isNone = true) : ab_Run ab_mt 13 90 ls st w = ab_Run ab_mt 13 92 ls (ab_gv (ls 5) :: st) w := E_loadl (n := 2) rfl h h2
theorem e_13_92 {ls : ab_L} {st : List Value} {w : ab_W} (h : ab_isR (ls 0) = true) : ab_Run ab_mt 13 92 ls st w = ab_Run ab_mt 13 93 ls (ab_gv (ls 0) :: st) w := E_loadr (n := 1) rfl h
theorem e_13_93 {ls : ab_L} {st : List Value} {w : ab_W} {a : Nat} (h : ab_isF 0 0 (w.2 a) = true) : ab_Run ab_mt 13 93 ls (.ref a :: st) w = ab_Run ab_mt 13 96 ls (ab_fv 0 (w.2 a) :: st) w := E_get rfl h
theorem e_13_96 {ls : ab_L} {st : List Value} {w : ab_W} (h : ab_isI (ls 4) = true) : ab_Run ab_mt 13 96 ls st w = ab_Run ab_mt 13 98 ls (ab_gv (ls 4) :: st) w := E_loadi (n := 2) rfl h
theorem e_13_98 {ls : ab_L} {st : List Value} {w : ab_W} {v0 v1 : Value} (h1 : ab_recv ab_mt 39 [v0, v1] w.2 = true) (h8 : ab_w8 st = true) : ab_Run ab_mt 13 98 ls (v1 :: v0 :: st) w = ab_aft 39 13 98 ls st (ab_Cl 39 [v0, v1] w) := E_call2 rfl h1 h8
theorem e_13_101 {ls : ab_L} {st : List Value} {w : ab_W} {x y : Int64} : ab_Run ab_mt 13 101 ls (.long y :: .long x :: st) w = ab_Run ab_mt 13 102 ls (.int (lg_cmp x y) :: st) w := E_lcmp rfl
theorem e_13_102 {ls : ab_L} {st : List Value} {w : ab_W} {x : Int32} : ab_Run ab_mt 13 102 ls (.int x :: st) w = if x < 0 then ab_Run ab_mt 13 109 ls st w else ab_Run ab_mt 13 105 ls st w := E_if_lt rfl
theorem e_13_105 {ls : ab_L} {st : List Value} {w : ab_W} : ab_Run ab_mt 13 105 ls st w = ab_Run ab_mt 13 106 ls (.int (nI 1) :: st) w := E_push (n := 1) rfl
theorem e_13_106 {ls : ab_L} {st : List Value} {w : ab_W} : ab_Run ab_mt 13 106 ls st w = ab_Run ab_mt 13 110 ls st w := E_goto rfl
theorem e_13_109 {ls : ab_L} {st : List Value} {w : ab_W} : ab_Run ab_mt 13 109 ls st w = ab_Run ab_mt 13 110 ls (.int (nI 0) :: st) w := E_push (n := 1) rfl
theorem e_13_110 {ls : ab_L} {w : ab_W} {x : Int32} : ab_Run ab_mt 13 110 ls [.int x] w = some (.inl (some (.int x)), w) := E_reti rfl
theorem rv_13 {σ : ab_S} {t : Nat} {x0 : Int64} {x1 : Int32} : ab_recv ab_mt 13 [.ref t, .long x0, .int x1] σ = ab_isO 0 (σ t) := rfl
theorem x_13_6 {ls : ab_L} {rest : List Value} {E : Nat} {w : ab_W} : ab_aft 17 13 6 ls rest (some (.inr E, w)) = some (.inr E, w) := ab_aft_x rfl rfl (by unfold ab_hand; rfl)
theorem e_14_0 {ls : ab_L} {st : List Value} {w : ab_W} (h : ab_isI (ls 1) = true) : ab_Run ab_mt 14 0 ls st w = ab_Run ab_mt 14 1 ls (ab_gv (ls 1) :: st) w := E_loadi (n := 1) rfl h
theorem e_14_1 {ls : ab_L} {st : List Value} {w : ab_W} {x : Int32} : ab_Run ab_mt 14 1 ls (.int x :: st) w = ab_Run ab_mt 14 2 ls (.long x.toInt64 :: st) w := E_i2l rfl
theorem e_14_2 {ls : ab_L} {st : List Value} {w : ab_W} : ab_Run ab_mt 14 2 ls st w = ab_Run ab_mt 14 3 ls (.long (lN 0) :: st) w := E_push (n := 1) rfl
theorem e_14_3 {ls : ab_L} {st : List Value} {w : ab_W} : ab_Run ab_mt 14 3 ls st w = ab_Run ab_mt 14 6 ls (.long (lN 11) :: st) w := E_push (n := 3) rfl
theorem e_14_6 {ls : ab_L} {st : List Value} {w : ab_W} {v0 v1 v2 : Value} (h1 : ab_recv ab_mt 17 [v0, v1, v2] w.2 = true) (h8 : ab_w8 st = true) : ab_Run ab_mt 14 6 ls (v2 :: v1 :: v0 :: st) w = ab_aft 17 14 6 ls st (ab_Cl 17 [v0, v1, v2] w) := E_call3 rfl h1 h8
theorem e_14_9 {ls : ab_L} {st : List Value} {w : ab_W} (h : ab_isI (ls 1) = true) : ab_Run ab_mt 14 9 ls st w = ab_Run ab_mt 14 10 ls (ab_gv (ls 1) :: st) w := E_loadi (n := 1) rfl h
theorem e_14_10 {ls : ab_L} {st : List Value} {w : ab_W} {x : Int32} : ab_Run ab_mt 14 10 ls (.int x :: st) w = if x.toInt < 0 ∨ 10 < x.toInt then ab_Run ab_mt 14 180 ls st w else ab_Run ab_mt 14 (([68, 80, 89, 101, 113, 121, 129, 137, 146, 155, 171] : List Nat).getD (x.toInt - 0).toNat 0) ls st w := E_swi rfl (by decide)
theorem e_14_68 {ls : ab_L} {st : List Value} {w : ab_W} (h : ab_isR (ls 0) = true) : ab_Run ab_mt 14 68 ls st w = ab_Run ab_mt 14 69 ls (ab_gv (ls 0) :: st) w := E_loadr (n := 1) rfl h
theorem e_14_69 {ls : ab_L} {st : List Value} {w : ab_W} {a : Nat} (h : ab_isF 0 1 (w.2 a) = true) : ab_Run ab_mt 14 69 ls (.ref a :: st) w = ab_Run ab_mt 14 72 ls (ab_fv 1 (w.2 a) :: st) w := E_get rfl h
theorem e_14_72 {ls : ab_L} {st : List Value} {w : ab_W} {a : Nat} (h : ab_isF 2 0 (w.2 a) = true) : ab_Run ab_mt 14 72 ls (.ref a :: st) w = ab_Run ab_mt 14 75 ls (ab_fv 0 (w.2 a) :: st) w := E_get rfl h
theorem e_14_75 {ls : ab_L} {st : List Value} {w : ab_W} {a : Nat} (h : ab_isF 3 3 (w.2 a) = true) : ab_Run ab_mt 14 75 ls (.ref a :: st) w = ab_Run ab_mt 14 78 ls (ab_fv 3 (w.2 a) :: st) w := E_get rfl h
theorem e_14_78 {ls : ab_L} {st : List Value} {w : ab_W} {x : Int32} : ab_Run ab_mt 14 78 ls (.int x :: st) w = ab_Run ab_mt 14 79 ls (.long x.toInt64 :: st) w := E_i2l rfl
theorem e_14_79 {ls : ab_L} {w : ab_W} {x : Int64} : ab_Run ab_mt 14 79 ls [.long x] w = some (.inl (some (.long x)), w) := E_retl rfl
theorem e_14_80 {ls : ab_L} {st : List Value} {w : ab_W} (h : ab_isR (ls 0) = true) : ab_Run ab_mt 14 80 ls st w = ab_Run ab_mt 14 81 ls (ab_gv (ls 0) :: st) w := E_loadr (n := 1) rfl h
theorem e_14_81 {ls : ab_L} {st : List Value} {w : ab_W} {a : Nat} (h : ab_isF 0 0 (w.2 a) = true) : ab_Run ab_mt 14 81 ls (.ref a :: st) w = ab_Run ab_mt 14 84 ls (ab_fv 0 (w.2 a) :: st) w := E_get rfl h
theorem e_14_84 {ls : ab_L} {st : List Value} {w : ab_W} {a : Nat} (h : ab_isF 1 6 (w.2 a) = true) : ab_Run ab_mt 14 84 ls (.ref a :: st) w = ab_Run ab_mt 14 87 ls (ab_fv 6 (w.2 a) :: st) w := E_get rfl h
theorem e_14_87 {ls : ab_L} {st : List Value} {w : ab_W} {x : Int32} : ab_Run ab_mt 14 87 ls (.int x :: st) w = ab_Run ab_mt 14 88 ls (.long x.toInt64 :: st) w := E_i2l rfl
theorem e_14_88 {ls : ab_L} {w : ab_W} {x : Int64} : ab_Run ab_mt 14 88 ls [.long x] w = some (.inl (some (.long x)), w) := E_retl rfl
theorem e_14_89 {ls : ab_L} {st : List Value} {w : ab_W} (h : ab_isR (ls 0) = true) : ab_Run ab_mt 14 89 ls st w = ab_Run ab_mt 14 90 ls (ab_gv (ls 0) :: st) w := E_loadr (n := 1) rfl h
theorem e_14_90 {ls : ab_L} {st : List Value} {w : ab_W} {a : Nat} (h : ab_isF 0 1 (w.2 a) = true) : ab_Run ab_mt 14 90 ls (.ref a :: st) w = ab_Run ab_mt 14 93 ls (ab_fv 1 (w.2 a) :: st) w := E_get rfl h
theorem e_14_93 {ls : ab_L} {st : List Value} {w : ab_W} {a : Nat} (h : ab_isF 2 1 (w.2 a) = true) : ab_Run ab_mt 14 93 ls (.ref a :: st) w = ab_Run ab_mt 14 96 ls (ab_fv 1 (w.2 a) :: st) w := E_get rfl h
theorem e_14_96 {ls : ab_L} {st : List Value} {w : ab_W} {a : Nat} (h : ab_isF 3 3 (w.2 a) = true) : ab_Run ab_mt 14 96 ls (.ref a :: st) w = ab_Run ab_mt 14 99 ls (ab_fv 3 (w.2 a) :: st) w := E_get rfl h
theorem e_14_99 {ls : ab_L} {st : List Value} {w : ab_W} {x : Int32} : ab_Run ab_mt 14 99 ls (.int x :: st) w = ab_Run ab_mt 14 100 ls (.long x.toInt64 :: st) w := E_i2l rfl
theorem e_14_100 {ls : ab_L} {w : ab_W} {x : Int64} : ab_Run ab_mt 14 100 ls [.long x] w = some (.inl (some (.long x)), w) := E_retl rfl
theorem e_14_101 {ls : ab_L} {st : List Value} {w : ab_W} (h : ab_isR (ls 0) = true) : ab_Run ab_mt 14 101 ls st w = ab_Run ab_mt 14 102 ls (ab_gv (ls 0) :: st) w := E_loadr (n := 1) rfl h
theorem e_14_102 {ls : ab_L} {st : List Value} {w : ab_W} {a : Nat} (h : ab_isF 0 1 (w.2 a) = true) : ab_Run ab_mt 14 102 ls (.ref a :: st) w = ab_Run ab_mt 14 105 ls (ab_fv 1 (w.2 a) :: st) w := E_get rfl h
theorem e_14_105 {ls : ab_L} {st : List Value} {w : ab_W} {a : Nat} (h : ab_isF 2 2 (w.2 a) = true) : ab_Run ab_mt 14 105 ls (.ref a :: st) w = ab_Run ab_mt 14 108 ls (ab_fv 2 (w.2 a) :: st) w := E_get rfl h
theorem e_14_108 {ls : ab_L} {st : List Value} {w : ab_W} {a : Nat} (h : ab_isF 3 3 (w.2 a) = true) : ab_Run ab_mt 14 108 ls (.ref a :: st) w = ab_Run ab_mt 14 111 ls (ab_fv 3 (w.2 a) :: st) w := E_get rfl h
theorem e_14_111 {ls : ab_L} {st : List Value} {w : ab_W} {x : Int32} : ab_Run ab_mt 14 111 ls (.int x :: st) w = ab_Run ab_mt 14 112 ls (.long x.toInt64 :: st) w := E_i2l rfl
theorem e_14_112 {ls : ab_L} {w : ab_W} {x : Int64} : ab_Run ab_mt 14 112 ls [.long x] w = some (.inl (some (.long x)), w) := E_retl rfl
theorem e_14_113 {ls : ab_L} {st : List Value} {w : ab_W} (h : ab_isR (ls 0) = true) : ab_Run ab_mt 14 113 ls st w = ab_Run ab_mt 14 114 ls (ab_gv (ls 0) :: st) w := E_loadr (n := 1) rfl h
theorem e_14_114 {ls : ab_L} {st : List Value} {w : ab_W} {a : Nat} (h : ab_isF 0 0 (w.2 a) = true) : ab_Run ab_mt 14 114 ls (.ref a :: st) w = ab_Run ab_mt 14 117 ls (ab_fv 0 (w.2 a) :: st) w := E_get rfl h
theorem e_14_117 {ls : ab_L} {st : List Value} {w : ab_W} {v0 : Value} (h1 : ab_recv ab_mt 46 [v0] w.2 = true) (h8 : ab_w8 st = true) : ab_Run ab_mt 14 117 ls (v0 :: st) w = ab_aft 46 14 117 ls st (ab_Cl 46 [v0] w) := E_call1 rfl h1 h8
theorem e_14_120 {ls : ab_L} {w : ab_W} {x : Int64} : ab_Run ab_mt 14 120 ls [.long x] w = some (.inl (some (.long x)), w) := E_retl rfl
theorem e_14_121 {ls : ab_L} {st : List Value} {w : ab_W} (h : ab_isR (ls 0) = true) : ab_Run ab_mt 14 121 ls st w = ab_Run ab_mt 14 122 ls (ab_gv (ls 0) :: st) w := E_loadr (n := 1) rfl h
theorem e_14_122 {ls : ab_L} {st : List Value} {w : ab_W} {a : Nat} (h : ab_isF 0 0 (w.2 a) = true) : ab_Run ab_mt 14 122 ls (.ref a :: st) w = ab_Run ab_mt 14 125 ls (ab_fv 0 (w.2 a) :: st) w := E_get rfl h
theorem e_14_125 {ls : ab_L} {st : List Value} {w : ab_W} {a : Nat} (h : ab_isF 1 7 (w.2 a) = true) : ab_Run ab_mt 14 125 ls (.ref a :: st) w = ab_Run ab_mt 14 128 ls (ab_fv 7 (w.2 a) :: st) w := E_get rfl h
theorem e_14_128 {ls : ab_L} {w : ab_W} {x : Int64} : ab_Run ab_mt 14 128 ls [.long x] w = some (.inl (some (.long x)), w) := E_retl rfl
theorem e_14_129 {ls : ab_L} {st : List Value} {w : ab_W} (h : ab_isR (ls 0) = true) : ab_Run ab_mt 14 129 ls st w = ab_Run ab_mt 14 130 ls (ab_gv (ls 0) :: st) w := E_loadr (n := 1) rfl h
theorem e_14_130 {ls : ab_L} {st : List Value} {w : ab_W} {a : Nat} (h : ab_isF 0 0 (w.2 a) = true) : ab_Run ab_mt 14 130 ls (.ref a :: st) w = ab_Run ab_mt 14 133 ls (ab_fv 0 (w.2 a) :: st) w := E_get rfl h
theorem e_14_133 {ls : ab_L} {st : List Value} {w : ab_W} {v0 : Value} (h1 : ab_recv ab_mt 47 [v0] w.2 = true) (h8 : ab_w8 st = true) : ab_Run ab_mt 14 133 ls (v0 :: st) w = ab_aft 47 14 133 ls st (ab_Cl 47 [v0] w) := E_call1 rfl h1 h8
theorem e_14_136 {ls : ab_L} {w : ab_W} {x : Int64} : ab_Run ab_mt 14 136 ls [.long x] w = some (.inl (some (.long x)), w) := E_retl rfl
theorem e_14_137 {ls : ab_L} {st : List Value} {w : ab_W} (h : ab_isR (ls 0) = true) : ab_Run ab_mt 14 137 ls st w = ab_Run ab_mt 14 138 ls (ab_gv (ls 0) :: st) w := E_loadr (n := 1) rfl h
theorem e_14_138 {ls : ab_L} {st : List Value} {w : ab_W} {a : Nat} (h : ab_isF 0 0 (w.2 a) = true) : ab_Run ab_mt 14 138 ls (.ref a :: st) w = ab_Run ab_mt 14 141 ls (ab_fv 0 (w.2 a) :: st) w := E_get rfl h
theorem e_14_141 {ls : ab_L} {st : List Value} {w : ab_W} : ab_Run ab_mt 14 141 ls st w = ab_Run ab_mt 14 142 ls (.int (nI 1) :: st) w := E_push (n := 1) rfl
theorem e_14_142 {ls : ab_L} {st : List Value} {w : ab_W} {v0 v1 : Value} (h1 : ab_recv ab_mt 48 [v0, v1] w.2 = true) (h8 : ab_w8 st = true) : ab_Run ab_mt 14 142 ls (v1 :: v0 :: st) w = ab_aft 48 14 142 ls st (ab_Cl 48 [v0, v1] w) := E_call2 rfl h1 h8
theorem e_14_145 {ls : ab_L} {w : ab_W} {x : Int64} : ab_Run ab_mt 14 145 ls [.long x] w = some (.inl (some (.long x)), w) := E_retl rfl
theorem e_14_146 {ls : ab_L} {st : List Value} {w : ab_W} (h : ab_isR (ls 0) = true) : ab_Run ab_mt 14 146 ls st w = ab_Run ab_mt 14 147 ls (ab_gv (ls 0) :: st) w := E_loadr (n := 1) rfl h
theorem e_14_147 {ls : ab_L} {st : List Value} {w : ab_W} {a : Nat} (h : ab_isF 0 0 (w.2 a) = true) : ab_Run ab_mt 14 147 ls (.ref a :: st) w = ab_Run ab_mt 14 150 ls (ab_fv 0 (w.2 a) :: st) w := E_get rfl h
theorem e_14_150 {ls : ab_L} {st : List Value} {w : ab_W} : ab_Run ab_mt 14 150 ls st w = ab_Run ab_mt 14 151 ls (.int (nI 0) :: st) w := E_push (n := 1) rfl
theorem e_14_151 {ls : ab_L} {st : List Value} {w : ab_W} {v0 v1 : Value} (h1 : ab_recv ab_mt 48 [v0, v1] w.2 = true) (h8 : ab_w8 st = true) : ab_Run ab_mt 14 151 ls (v1 :: v0 :: st) w = ab_aft 48 14 151 ls st (ab_Cl 48 [v0, v1] w) := E_call2 rfl h1 h8
theorem e_14_154 {ls : ab_L} {w : ab_W} {x : Int64} : ab_Run ab_mt 14 154 ls [.long x] w = some (.inl (some (.long x)), w) := E_retl rfl
theorem e_14_155 {ls : ab_L} {st : List Value} {w : ab_W} (h : ab_isR (ls 0) = true) : ab_Run ab_mt 14 155 ls st w = ab_Run ab_mt 14 156 ls (ab_gv (ls 0) :: st) w := E_loadr (n := 1) rfl h
theorem e_14_156 {ls : ab_L} {st : List Value} {w : ab_W} {a : Nat} (h : ab_isF 0 2 (w.2 a) = true) : ab_Run ab_mt 14 156 ls (.ref a :: st) w = ab_Run ab_mt 14 159 ls (ab_fv 2 (w.2 a) :: st) w := E_get rfl h
theorem e_14_159 {ls : ab_L} {st : List Value} {w : ab_W} {a : Nat} (h : ab_isF 4 6 (w.2 a) = true) : ab_Run ab_mt 14 159 ls (.ref a :: st) w = ab_Run ab_mt 14 162 ls (ab_fv 6 (w.2 a) :: st) w := E_get rfl h
theorem e_14_162 {ls : ab_L} {st : List Value} {w : ab_W} {x : Int32} : ab_Run ab_mt 14 162 ls (.int x :: st) w = if x = 0 then ab_Run ab_mt 14 169 ls st w else ab_Run ab_mt 14 165 ls st w := E_if_eq rfl
theorem e_14_165 {ls : ab_L} {st : List Value} {w : ab_W} : ab_Run ab_mt 14 165 ls st w = ab_Run ab_mt 14 166 ls (.long (lN 1) :: st) w := E_push (n := 1) rfl
theorem e_14_166 {ls : ab_L} {st : List Value} {w : ab_W} : ab_Run ab_mt 14 166 ls st w = ab_Run ab_mt 14 170 ls st w := E_goto rfl
theorem e_14_169 {ls : ab_L} {st : List Value} {w : ab_W} : ab_Run ab_mt 14 169 ls st w = ab_Run ab_mt 14 170 ls (.long (lN 0) :: st) w := E_push (n := 1) rfl
theorem e_14_170 {ls : ab_L} {w : ab_W} {x : Int64} : ab_Run ab_mt 14 170 ls [.long x] w = some (.inl (some (.long x)), w) := E_retl rfl
theorem e_14_171 {ls : ab_L} {st : List Value} {w : ab_W} (h : ab_isR (ls 0) = true) : ab_Run ab_mt 14 171 ls st w = ab_Run ab_mt 14 172 ls (ab_gv (ls 0) :: st) w := E_loadr (n := 1) rfl h
theorem e_14_172 {ls : ab_L} {st : List Value} {w : ab_W} {a : Nat} (h : ab_isF 0 3 (w.2 a) = true) : ab_Run ab_mt 14 172 ls (.ref a :: st) w = ab_Run ab_mt 14 175 ls (ab_fv 3 (w.2 a) :: st) w := E_get rfl h
theorem e_14_175 {ls : ab_L} {st : List Value} {w : ab_W} {a : Nat} (h : ab_isF 5 1 (w.2 a) = true) : ab_Run ab_mt 14 175 ls (.ref a :: st) w = ab_Run ab_mt 14 178 ls (ab_fv 1 (w.2 a) :: st) w := E_get rfl h
theorem e_14_178 {ls : ab_L} {st : List Value} {w : ab_W} {x : Int32} : ab_Run ab_mt 14 178 ls (.int x :: st) w = ab_Run ab_mt 14 179 ls (.long x.toInt64 :: st) w := E_i2l rfl
theorem e_14_179 {ls : ab_L} {w : ab_W} {x : Int64} : ab_Run ab_mt 14 179 ls [.long x] w = some (.inl (some (.long x)), w) := E_retl rfl
theorem e_14_180 {ls : ab_L} {st : List Value} {w : ab_W} (h : ab_isR (ls 0) = true) : ab_Run ab_mt 14 180 ls st w = ab_Run ab_mt 14 181 ls (ab_gv (ls 0) :: st) w := E_loadr (n := 1) rfl h
theorem e_14_181 {ls : ab_L} {st : List Value} {w : ab_W} {a : Nat} (h : ab_isF 0 5 (w.2 a) = true) : ab_Run ab_mt 14 181 ls (.ref a :: st) w = ab_Run ab_mt 14 184 ls (ab_fv 5 (w.2 a) :: st) w := E_get rfl h
theorem e_14_184 {ls : ab_L} {st : List Value} {w : ab_W} {x : Int32} : ab_Run ab_mt 14 184 ls (.int x :: st) w = ab_Run ab_mt 14 185 ls (.long x.toInt64 :: st) w := E_i2l rfl
theorem e_14_185 {ls : ab_L} {w : ab_W} {x : Int64} : ab_Run ab_mt 14 185 ls [.long x] w = some (.inl (some (.long x)), w) := E_retl rfl
theorem rv_14 {σ : ab_S} {t : Nat} {x0 : Int32} : ab_recv ab_mt 14 [.ref t, .int x0] σ = ab_isO 0 (σ t) := rfl
theorem x_14_6 {ls : ab_L} {rest : List Value} {E : Nat} {w : ab_W} : ab_aft 17 14 6 ls rest (some (.inr E, w)) = some (.inr E, w) := ab_aft_x rfl rfl (by unfold ab_hand; rfl)
theorem e_15_0 {ls : ab_L} {st : List Value} {w : ab_W} (h : ab_isR (ls 0) = true) : ab_Run ab_mt 15 0 ls st w = ab_Run ab_mt 15 1 ls (ab_gv (ls 0) :: st) w := E_loadr (n := 1) rfl h
theorem e_15_1 {ls : ab_L} {st : List Value} {w : ab_W} {a : Nat} (h : ab_isF 0 0 (w.2 a) = true) : ab_Run ab_mt 15 1 ls (.ref a :: st) w = ab_Run ab_mt 15 4 ls (ab_fv 0 (w.2 a) :: st) w := E_get rfl h
theorem e_15_4 {ls : ab_L} {st : List Value} {w : ab_W} {a : Nat} (h : ab_isF 1 7 (w.2 a) = true) : ab_Run ab_mt 15 4 ls (.ref a :: st) w = ab_Run ab_mt 15 7 ls (ab_fv 7 (w.2 a) :: st) w := E_get rfl h
theorem e_15_7 {ls : ab_L} {st : List Value} {w : ab_W} : ab_Run ab_mt 15 7 ls st w = ab_Run ab_mt 15 8 ls (.long (lN 0) :: st) w := E_push (n := 1) rfl
theorem e_15_8 {ls : ab_L} {st : List Value} {w : ab_W} {x y : Int64} : ab_Run ab_mt 15 8 ls (.long y :: .long x :: st) w = ab_Run ab_mt 15 9 ls (.int (lg_cmp x y) :: st) w := E_lcmp rfl
theorem e_15_9 {ls : ab_L} {st : List Value} {w : ab_W} {x : Int32} : ab_Run ab_mt 15 9 ls (.int x :: st) w = if 0 < x then ab_Run ab_mt 15 14 ls st w else ab_Run ab_mt 15 12 ls st w := E_if_gt rfl
theorem e_15_12 {ls : ab_L} {st : List Value} {w : ab_W} : ab_Run ab_mt 15 12 ls st w = ab_Run ab_mt 15 13 ls (.double FP.dconst0 :: st) w := E_push (n := 1) rfl
theorem e_15_13 {ls : ab_L} {w : ab_W} {x : UInt64} : ab_Run ab_mt 15 13 ls [.double x] w = some (.inl (some (.double x)), w) := E_retd rfl
theorem e_15_14 {ls : ab_L} {st : List Value} {w : ab_W} : ab_Run ab_mt 15 14 ls st w = ab_Run ab_mt 15 17 ls (.double 4723321873536909312 :: st) w := E_push (n := 3) rfl
theorem e_15_17 {ls : ab_L} {st : List Value} {w : ab_W} (h : ab_isR (ls 0) = true) : ab_Run ab_mt 15 17 ls st w = ab_Run ab_mt 15 18 ls (ab_gv (ls 0) :: st) w := E_loadr (n := 1) rfl h
theorem e_15_18 {ls : ab_L} {st : List Value} {w : ab_W} {a : Nat} (h : ab_isF 0 0 (w.2 a) = true) : ab_Run ab_mt 15 18 ls (.ref a :: st) w = ab_Run ab_mt 15 21 ls (ab_fv 0 (w.2 a) :: st) w := E_get rfl h
theorem e_15_21 {ls : ab_L} {st : List Value} {w : ab_W} {a : Nat} (h : ab_isF 1 6 (w.2 a) = true) : ab_Run ab_mt 15 21 ls (.ref a :: st) w = ab_Run ab_mt 15 24 ls (ab_fv 6 (w.2 a) :: st) w := E_get rfl h
theorem e_15_24 {ls : ab_L} {st : List Value} {w : ab_W} {x : Int32} : ab_Run ab_mt 15 24 ls (.int x :: st) w = ab_Run ab_mt 15 25 ls (.double (FP.i2d x) :: st) w := E_i2d rfl
theorem e_15_25 {ls : ab_L} {st : List Value} {w : ab_W} {x y : UInt64} (h : ab_n64 (FP.dmul x y) = true) : ab_Run ab_mt 15 25 ls (.double y :: .double x :: st) w = ab_Run ab_mt 15 26 ls (.double (FP.dmul x y) :: st) w := E_db rfl h
theorem e_15_26 {ls : ab_L} {st : List Value} {w : ab_W} (h : ab_isR (ls 0) = true) : ab_Run ab_mt 15 26 ls st w = ab_Run ab_mt 15 27 ls (ab_gv (ls 0) :: st) w := E_loadr (n := 1) rfl h
theorem e_15_27 {ls : ab_L} {st : List Value} {w : ab_W} {a : Nat} (h : ab_isF 0 0 (w.2 a) = true) : ab_Run ab_mt 15 27 ls (.ref a :: st) w = ab_Run ab_mt 15 30 ls (ab_fv 0 (w.2 a) :: st) w := E_get rfl h
theorem e_15_30 {ls : ab_L} {st : List Value} {w : ab_W} {a : Nat} (h : ab_isF 1 7 (w.2 a) = true) : ab_Run ab_mt 15 30 ls (.ref a :: st) w = ab_Run ab_mt 15 33 ls (ab_fv 7 (w.2 a) :: st) w := E_get rfl h
theorem e_15_33 {ls : ab_L} {st : List Value} {w : ab_W} {x : Int64} : ab_Run ab_mt 15 33 ls (.long x :: st) w = ab_Run ab_mt 15 34 ls (.double (FP.l2d x) :: st) w := E_l2d rfl
theorem e_15_34 {ls : ab_L} {st : List Value} {w : ab_W} {x y : UInt64} (h : ab_n64 (FP.ddiv x y) = true) : ab_Run ab_mt 15 34 ls (.double y :: .double x :: st) w = ab_Run ab_mt 15 35 ls (.double (FP.ddiv x y) :: st) w := E_db rfl h
theorem e_15_35 {ls : ab_L} {w : ab_W} {x : UInt64} : ab_Run ab_mt 15 35 ls [.double x] w = some (.inl (some (.double x)), w) := E_retd rfl
theorem rv_15 {σ : ab_S} {t : Nat} : ab_recv ab_mt 15 [.ref t] σ = ab_isO 0 (σ t) := rfl
theorem e_16_0 {ls : ab_L} {st : List Value} {w : ab_W} (h : ab_isI (ls 0) = true) : ab_Run ab_mt 16 0 ls st w = ab_Run ab_mt 16 1 ls (ab_gv (ls 0) :: st) w := E_loadi (n := 1) rfl h
theorem e_16_1 {ls : ab_L} {st : List Value} {w : ab_W} {x : Int32} : ab_Run ab_mt 16 1 ls (.int x :: st) w = if x < 0 then ab_Run ab_mt 16 9 ls st w else ab_Run ab_mt 16 4 ls st w := E_if_lt rfl
theorem e_16_4 {ls : ab_L} {st : List Value} {w : ab_W} (h : ab_isI (ls 0) = true) : ab_Run ab_mt 16 4 ls st w = ab_Run ab_mt 16 5 ls (ab_gv (ls 0) :: st) w := E_loadi (n := 1) rfl h
theorem e_16_5 {ls : ab_L} {st : List Value} {w : ab_W} (h : ab_isI (ls 1) = true) : ab_Run ab_mt 16 5 ls st w = ab_Run ab_mt 16 6 ls (ab_gv (ls 1) :: st) w := E_loadi (n := 1) rfl h
theorem e_16_6 {ls : ab_L} {st : List Value} {w : ab_W} {x y : Int32} : ab_Run ab_mt 16 6 ls (.int y :: .int x :: st) w = if x < y then ab_Run ab_mt 16 20 ls st w else ab_Run ab_mt 16 9 ls st w := E_ic_lt rfl
theorem e_16_9 {ls : ab_L} {w : ab_W} : ab_Run ab_mt 16 9 ls [] w = some (.inr 2, (ab_th w.1, w.2)) := E_thr rfl
theorem e_16_20 {ls : ab_L} {w : ab_W} : ab_Run ab_mt 16 20 ls [] w = some (.inl none, w) := E_ret0 rfl
theorem rv_16 {σ : ab_S} {x0 : Int32} {x1 : Int32} : ab_recv ab_mt 16 [.int x0, .int x1] σ = true := rfl
theorem e_17_0 {ls : ab_L} {st : List Value} {w : ab_W} (h : ab_isL (ls 0) = true) (h2 : (ls 1).isNone = true) : ab_Run ab_mt 17 0 ls st w = ab_Run ab_mt 17 1 ls (ab_gv (ls 0) :: st) w := E_loadl (n := 1) rfl h h2
theorem e_17_1 {ls : ab_L} {st : List Value} {w : ab_W} (h : ab_isL (ls 2) = true) (h2 : (ls 3).isNone = true) : ab_Run ab_mt 17 1 ls st w = ab_Run ab_mt 17 2 ls (ab_gv (ls 2) :: st) w := E_loadl (n := 1) rfl h h2
theorem e_17_2 {ls : ab_L} {st : List Value} {w : ab_W} {x y : Int64} : ab_Run ab_mt 17 2 ls (.long y :: .long x :: st) w = ab_Run ab_mt 17 3 ls (.int (lg_cmp x y) :: st) w := E_lcmp rfl
theorem e_17_3 {ls : ab_L} {st : List Value} {w : ab_W} {x : Int32} : ab_Run ab_mt 17 3 ls (.int x :: st) w = if x < 0 then ab_Run ab_mt 17 13 ls st w else ab_Run ab_mt 17 6 ls st w := E_if_lt rfl
theorem e_17_6 {ls : ab_L} {st : List Value} {w : ab_W} (h : ab_isL (ls 0) = true) (h2 : (ls 1).isNone = true) : ab_Run ab_mt 17 6 ls st w = ab_Run ab_mt 17 7 ls (ab_gv (ls 0) :: st) w := E_loadl (n := 1) rfl h h2
theorem e_17_7 {ls : ab_L} {st : List Value} {w : ab_W} (h : ab_isL (ls 4) = true) (h2 : (ls 5).isNone = true) : ab_Run ab_mt 17 7 ls st w = ab_Run ab_mt 17 9 ls (ab_gv (ls 4) :: st) w := E_loadl (n := 2) rfl h h2
theorem e_17_9 {ls : ab_L} {st : List Value} {w : ab_W} {x y : Int64} : ab_Run ab_mt 17 9 ls (.long y :: .long x :: st) w = ab_Run ab_mt 17 10 ls (.int (lg_cmp x y) :: st) w := E_lcmp rfl
theorem e_17_10 {ls : ab_L} {st : List Value} {w : ab_W} {x : Int32} : ab_Run ab_mt 17 10 ls (.int x :: st) w = if x ≤ 0 then ab_Run ab_mt 17 24 ls st w else ab_Run ab_mt 17 13 ls st w := E_if_le rfl
theorem e_17_13 {ls : ab_L} {w : ab_W} : ab_Run ab_mt 17 13 ls [] w = some (.inr 1, (ab_th w.1, w.2)) := E_thr rfl
theorem e_17_24 {ls : ab_L} {w : ab_W} : ab_Run ab_mt 17 24 ls [] w = some (.inl none, w) := E_ret0 rfl
theorem rv_17 {σ : ab_S} {x0 : Int64} {x1 : Int64} {x2 : Int64} : ab_recv ab_mt 17 [.long x0, .long x1, .long x2] σ = true := rfl
theorem e_18_0 {ls : ab_L} {st : List Value} {w : ab_W} (h : ab_isR (ls 0) = true) : ab_Run ab_mt 18 0 ls st w = ab_Run ab_mt 18 1 ls (ab_gv (ls 0) :: st) w := E_loadr (n := 1) rfl h
theorem e_18_1 {ls : ab_L} {st : List Value} {w : ab_W} {a : Nat} (h : ab_isF 3 3 (w.2 a) = true) : ab_Run ab_mt 18 1 ls (.ref a :: st) w = ab_Run ab_mt 18 4 ls (ab_fv 3 (w.2 a) :: st) w := E_get rfl h
theorem e_18_4 {ls : ab_L} {st : List Value} {w : ab_W} (h : ab_isI (ls 1) = true) : ab_Run ab_mt 18 4 ls st w = ab_Run ab_mt 18 5 ls (ab_gv (ls 1) :: st) w := E_loadi (n := 1) rfl h
theorem e_18_5 {ls : ab_L} {st : List Value} {w : ab_W} {x y : Int32} : ab_Run ab_mt 18 5 ls (.int y :: .int x :: st) w = ab_Run ab_mt 18 6 ls (.int (x + y) :: st) w := E_ib (f := fun x y => x + y) rfl
theorem e_18_6 {ls : ab_L} {st : List Value} {w : ab_W} (h : ab_isI (ls 2) = true) : ab_Run ab_mt 18 6 ls st w = ab_Run ab_mt 18 7 ls (ab_gv (ls 2) :: st) w := E_loadi (n := 1) rfl h
theorem e_18_7 {ls : ab_L} {st : List Value} {w : ab_W} {x y : Int32} : ab_Run ab_mt 18 7 ls (.int y :: .int x :: st) w = if x ≤ y then ab_Run ab_mt 18 21 ls st w else ab_Run ab_mt 18 10 ls st w := E_ic_le rfl
theorem e_18_10 {ls : ab_L} {w : ab_W} : ab_Run ab_mt 18 10 ls [] w = some (.inr 0, (ab_th w.1, w.2)) := E_thr rfl
theorem e_18_21 {ls : ab_L} {w : ab_W} : ab_Run ab_mt 18 21 ls [] w = some (.inl none, w) := E_ret0 rfl
theorem rv_18 {σ : ab_S} {x0 : Nat} {x1 : Int32} {x2 : Int32} : ab_recv ab_mt 18 [.ref x0, .int x1, .int x2] σ = true := rfl
theorem e_19_0 {ls : ab_L} {st : List Value} {w : ab_W} (h : ab_isR (ls 0) = true) : ab_Run ab_mt 19 0 ls st w = ab_Run ab_mt 19 1 ls (ab_gv (ls 0) :: st) w := E_loadr (n := 1) rfl h
theorem e_19_1 {ls : ab_L} {st : List Value} {w : ab_W} {a : Nat} (h : ab_isF 0 2 (w.2 a) = true) : ab_Run ab_mt 19 1 ls (.ref a :: st) w = ab_Run ab_mt 19 4 ls (ab_fv 2 (w.2 a) :: st) w := E_get rfl h
theorem e_19_4 {ls : ab_L} {st : List Value} {w : ab_W} {a : Nat} (h : ab_isF 4 6 (w.2 a) = true) : ab_Run ab_mt 19 4 ls (.ref a :: st) w = ab_Run ab_mt 19 7 ls (ab_fv 6 (w.2 a) :: st) w := E_get rfl h
theorem e_19_7 {ls : ab_L} {st : List Value} {w : ab_W} {x : Int32} : ab_Run ab_mt 19 7 ls (.int x :: st) w = if x = 0 then ab_Run ab_mt 19 21 ls st w else ab_Run ab_mt 19 10 ls st w := E_if_eq rfl
theorem e_19_10 {ls : ab_L} {w : ab_W} : ab_Run ab_mt 19 10 ls [] w = some (.inr 0, (ab_th w.1, w.2)) := E_thr rfl
theorem e_19_21 {ls : ab_L} {w : ab_W} : ab_Run ab_mt 19 21 ls [] w = some (.inl none, w) := E_ret0 rfl
theorem rv_19 {σ : ab_S} {t : Nat} : ab_recv ab_mt 19 [.ref t] σ = ab_isO 0 (σ t) := rfl
theorem e_20_0 {ls : ab_L} {st : List Value} {w : ab_W} : ab_Run ab_mt 20 0 ls st w = ab_Run ab_mt 20 1 ls (.int (nI 1) :: st) w := E_push (n := 1) rfl
theorem e_20_1 {ls : ab_L} {st : List Value} {w : ab_W} (h : ab_isR (ls 0) = true) : ab_Run ab_mt 20 1 ls st w = ab_Run ab_mt 20 2 ls (ab_gv (ls 0) :: st) w := E_loadr (n := 1) rfl h
theorem e_20_2 {ls : ab_L} {st : List Value} {w : ab_W} {a : Nat} (h : ab_isF 0 1 (w.2 a) = true) : ab_Run ab_mt 20 2 ls (.ref a :: st) w = ab_Run ab_mt 20 5 ls (ab_fv 1 (w.2 a) :: st) w := E_get rfl h
theorem e_20_5 {ls : ab_L} {st : List Value} {w : ab_W} {a : Nat} (h : ab_isF 2 0 (w.2 a) = true) : ab_Run ab_mt 20 5 ls (.ref a :: st) w = ab_Run ab_mt 20 8 ls (ab_fv 0 (w.2 a) :: st) w := E_get rfl h
theorem e_20_8 {ls : ab_L} {st : List Value} {w : ab_W} (h : ab_isI (ls 1) = true) : ab_Run ab_mt 20 8 ls st w = ab_Run ab_mt 20 9 ls (ab_gv (ls 1) :: st) w := E_loadi (n := 1) rfl h
theorem e_20_9 {ls : ab_L} {st : List Value} {w : ab_W} : ab_Run ab_mt 20 9 ls st w = ab_Run ab_mt 20 10 ls (.int (nI 0) :: st) w := E_push (n := 1) rfl
theorem e_20_10 {ls : ab_L} {st : List Value} {w : ab_W} {v0 v1 v2 : Value} (h1 : ab_recv ab_mt 53 [v0, v1, v2] w.2 = true) (h8 : ab_w8 st = true) : ab_Run ab_mt 20 10 ls (v2 :: v1 :: v0 :: st) w = ab_aft 53 20 10 ls st (ab_Cl 53 [v0, v1, v2] w) := E_call3 rfl h1 h8
theorem e_20_13 {ls : ab_L} {st : List Value} {w : ab_W} {x y : Int32} : ab_Run ab_mt 20 13 ls (.int y :: .int x :: st) w = ab_Run ab_mt 20 14 ls (.int (x <<< (y &&& 31)) :: st) w := E_ib (f := fun x y => x <<< (y &&& 31)) rfl
theorem e_20_14 {ls : ab_L} {st : List Value} {w : ab_W} : ab_Run ab_mt 20 14 ls st w = ab_Run ab_mt 20 15 ls (.int (nI 1) :: st) w := E_push (n := 1) rfl
theorem e_20_15 {ls : ab_L} {st : List Value} {w : ab_W} {x y : Int32} : ab_Run ab_mt 20 15 ls (.int y :: .int x :: st) w = ab_Run ab_mt 20 16 ls (.int (x - y) :: st) w := E_ib (f := fun x y => x - y) rfl
theorem e_20_16 {ls : ab_L} {st : List Value} {w : ab_W} {x : Int32} : ab_Run ab_mt 20 16 ls (.int x :: st) w = ab_Run ab_mt 20 17 (ab_l1 ls 2 (.int x)) st w := E_stori (n := 1) rfl
theorem e_20_17 {ls : ab_L} {st : List Value} {w : ab_W} (h : ab_isR (ls 0) = true) : ab_Run ab_mt 20 17 ls st w = ab_Run ab_mt 20 18 ls (ab_gv (ls 0) :: st) w := E_loadr (n := 1) rfl h
theorem e_20_18 {ls : ab_L} {st : List Value} {w : ab_W} {a : Nat} (h : ab_isF 0 1 (w.2 a) = true) : ab_Run ab_mt 20 18 ls (.ref a :: st) w = ab_Run ab_mt 20 21 ls (ab_fv 1 (w.2 a) :: st) w := E_get rfl h
theorem e_20_21 {ls : ab_L} {st : List Value} {w : ab_W} {a : Nat} (h : ab_isF 2 0 (w.2 a) = true) : ab_Run ab_mt 20 21 ls (.ref a :: st) w = ab_Run ab_mt 20 24 ls (ab_fv 0 (w.2 a) :: st) w := E_get rfl h
theorem e_20_24 {ls : ab_L} {st : List Value} {w : ab_W} (h : ab_isI (ls 1) = true) : ab_Run ab_mt 20 24 ls st w = ab_Run ab_mt 20 25 ls (ab_gv (ls 1) :: st) w := E_loadi (n := 1) rfl h
theorem e_20_25 {ls : ab_L} {st : List Value} {w : ab_W} : ab_Run ab_mt 20 25 ls st w = ab_Run ab_mt 20 26 ls (.int (nI 4) :: st) w := E_push (n := 1) rfl
theorem e_20_26 {ls : ab_L} {st : List Value} {w : ab_W} (h : ab_isR (ls 0) = true) : ab_Run ab_mt 20 26 ls st w = ab_Run ab_mt 20 27 ls (ab_gv (ls 0) :: st) w := E_loadr (n := 1) rfl h
theorem e_20_27 {ls : ab_L} {st : List Value} {w : ab_W} {a : Nat} (h : ab_isF 0 1 (w.2 a) = true) : ab_Run ab_mt 20 27 ls (.ref a :: st) w = ab_Run ab_mt 20 30 ls (ab_fv 1 (w.2 a) :: st) w := E_get rfl h
theorem e_20_30 {ls : ab_L} {st : List Value} {w : ab_W} {a : Nat} (h : ab_isF 2 0 (w.2 a) = true) : ab_Run ab_mt 20 30 ls (.ref a :: st) w = ab_Run ab_mt 20 33 ls (ab_fv 0 (w.2 a) :: st) w := E_get rfl h
theorem e_20_33 {ls : ab_L} {st : List Value} {w : ab_W} (h : ab_isI (ls 1) = true) : ab_Run ab_mt 20 33 ls st w = ab_Run ab_mt 20 34 ls (ab_gv (ls 1) :: st) w := E_loadi (n := 1) rfl h
theorem e_20_34 {ls : ab_L} {st : List Value} {w : ab_W} : ab_Run ab_mt 20 34 ls st w = ab_Run ab_mt 20 35 ls (.int (nI 4) :: st) w := E_push (n := 1) rfl
theorem e_20_35 {ls : ab_L} {st : List Value} {w : ab_W} {v0 v1 v2 : Value} (h1 : ab_recv ab_mt 53 [v0, v1, v2] w.2 = true) (h8 : ab_w8 st = true) : ab_Run ab_mt 20 35 ls (v2 :: v1 :: v0 :: st) w = ab_aft 53 20 35 ls st (ab_Cl 53 [v0, v1, v2] w) := E_call3 rfl h1 h8
theorem e_20_38 {ls : ab_L} {st : List Value} {w : ab_W} (h : ab_isI (ls 2) = true) : ab_Run ab_mt 20 38 ls st w = ab_Run ab_mt 20 39 ls (ab_gv (ls 2) :: st) w := E_loadi (n := 1) rfl h
theorem e_20_39 {ls : ab_L} {st : List Value} {w : ab_W} {x y : Int32} : ab_Run ab_mt 20 39 ls (.int y :: .int x :: st) w = ab_Run ab_mt 20 40 ls (.int (x &&& y) :: st) w := E_ib (f := fun x y => x &&& y) rfl
theorem e_20_40 {ls : ab_L} {st : List Value} {w : ab_W} {v0 v1 v2 v3 : Value} (h1 : ab_recv ab_mt 54 [v0, v1, v2, v3] w.2 = true) (h8 : ab_w8 st = true) : ab_Run ab_mt 20 40 ls (v3 :: v2 :: v1 :: v0 :: st) w = ab_aft 54 20 40 ls st (ab_Cl 54 [v0, v1, v2, v3] w) := E_call4 rfl h1 h8
theorem e_20_43 {ls : ab_L} {w : ab_W} : ab_Run ab_mt 20 43 ls [] w = some (.inl none, w) := E_ret0 rfl
theorem rv_20 {σ : ab_S} {t : Nat} {x0 : Int32} : ab_recv ab_mt 20 [.ref t, .int x0] σ = ab_isO 0 (σ t) := rfl
theorem e_21_0 {ls : ab_L} {st : List Value} {w : ab_W} (h : ab_isR (ls 0) = true) : ab_Run ab_mt 21 0 ls st w = ab_Run ab_mt 21 1 ls (ab_gv (ls 0) :: st) w := E_loadr (n := 1) rfl h
theorem e_21_1 {ls : ab_L} {st : List Value} {w : ab_W} {a : Nat} (h : ab_isF 3 3 (w.2 a) = true) : ab_Run ab_mt 21 1 ls (.ref a :: st) w = ab_Run ab_mt 21 4 ls (ab_fv 3 (w.2 a) :: st) w := E_get rfl h
theorem e_21_4 {ls : ab_L} {st : List Value} {w : ab_W} {x : Int32} : ab_Run ab_mt 21 4 ls (.int x :: st) w = ab_Run ab_mt 21 5 (ab_l1 ls 3 (.int x)) st w := E_stori (n := 1) rfl
theorem e_21_5 {ls : ab_L} {st : List Value} {w : ab_W} (h : ab_isR (ls 0) = true) : ab_Run ab_mt 21 5 ls st w = ab_Run ab_mt 21 6 ls (ab_gv (ls 0) :: st) w := E_loadr (n := 1) rfl h
theorem e_21_6 {ls : ab_L} {st : List Value} {w : ab_W} (h : ab_isI (ls 3) = true) : ab_Run ab_mt 21 6 ls st w = ab_Run ab_mt 21 7 ls (ab_gv (ls 3) :: st) w := E_loadi (n := 1) rfl h
theorem e_21_7 {ls : ab_L} {st : List Value} {w : ab_W} {v0 v1 : Value} (h1 : ab_recv ab_mt 55 [v0, v1] w.2 = true) (h8 : ab_w8 st = true) : ab_Run ab_mt 21 7 ls (v1 :: v0 :: st) w = ab_aft 55 21 7 ls st (ab_Cl 55 [v0, v1] w) := E_call2 rfl h1 h8
theorem e_21_10 {ls : ab_L} {st : List Value} {w : ab_W} (h : ab_isR (ls 0) = true) : ab_Run ab_mt 21 10 ls st w = ab_Run ab_mt 21 11 ls (ab_gv (ls 0) :: st) w := E_loadr (n := 1) rfl h
theorem e_21_11 {ls : ab_L} {st : List Value} {w : ab_W} (h : ab_isI (ls 3) = true) : ab_Run ab_mt 21 11 ls st w = ab_Run ab_mt 21 12 ls (ab_gv (ls 3) :: st) w := E_loadi (n := 1) rfl h
theorem e_21_12 {ls : ab_L} {st : List Value} {w : ab_W} : ab_Run ab_mt 21 12 ls st w = ab_Run ab_mt 21 13 ls (.int (nI 0) :: st) w := E_push (n := 1) rfl
theorem e_21_13 {ls : ab_L} {st : List Value} {w : ab_W} (h : ab_isI (ls 1) = true) : ab_Run ab_mt 21 13 ls st w = ab_Run ab_mt 21 14 ls (ab_gv (ls 1) :: st) w := E_loadi (n := 1) rfl h
theorem e_21_14 {ls : ab_L} {st : List Value} {w : ab_W} {v0 v1 v2 v3 : Value} (h1 : ab_recv ab_mt 54 [v0, v1, v2, v3] w.2 = true) (h8 : ab_w8 st = true) : ab_Run ab_mt 21 14 ls (v3 :: v2 :: v1 :: v0 :: st) w = ab_aft 54 21 14 ls st (ab_Cl 54 [v0, v1, v2, v3] w) := E_call4 rfl h1 h8
theorem e_21_17 {ls : ab_L} {st : List Value} {w : ab_W} (h : ab_isR (ls 0) = true) : ab_Run ab_mt 21 17 ls st w = ab_Run ab_mt 21 18 ls (ab_gv (ls 0) :: st) w := E_loadr (n := 1) rfl h
theorem e_21_18 {ls : ab_L} {st : List Value} {w : ab_W} (h : ab_isI (ls 3) = true) : ab_Run ab_mt 21 18 ls st w = ab_Run ab_mt 21 19 ls (ab_gv (ls 3) :: st) w := E_loadi (n := 1) rfl h
theorem e_21_19 {ls : ab_L} {st : List Value} {w : ab_W} : ab_Run ab_mt 21 19 ls st w = ab_Run ab_mt 21 20 ls (.int (nI 1) :: st) w := E_push (n := 1) rfl
theorem e_21_20 {ls : ab_L} {st : List Value} {w : ab_W} (h : ab_isI (ls 2) = true) : ab_Run ab_mt 21 20 ls st w = ab_Run ab_mt 21 21 ls (ab_gv (ls 2) :: st) w := E_loadi (n := 1) rfl h
theorem e_21_21 {ls : ab_L} {st : List Value} {w : ab_W} {v0 v1 v2 v3 : Value} (h1 : ab_recv ab_mt 54 [v0, v1, v2, v3] w.2 = true) (h8 : ab_w8 st = true) : ab_Run ab_mt 21 21 ls (v3 :: v2 :: v1 :: v0 :: st) w = ab_aft 54 21 21 ls st (ab_Cl 54 [v0, v1, v2, v3] w) := E_call4 rfl h1 h8
theorem e_21_24 {ls : ab_L} {st : List Value} {w : ab_W} (h : ab_isR (ls 0) = true) : ab_Run ab_mt 21 24 ls st w = ab_Run ab_mt 21 25 ls (ab_gv (ls 0) :: st) w := E_loadr (n := 1) rfl h
theorem e_21_25 {ls : ab_L} {st : List Value} {w : ab_W} (h : ab_isI (ls 3) = true) : ab_Run ab_mt 21 25 ls st w = ab_Run ab_mt 21 26 ls (ab_gv (ls 3) :: st) w := E_loadi (n := 1) rfl h
theorem e_21_26 {ls : ab_L} {st : List Value} {w : ab_W} : ab_Run ab_mt 21 26 ls st w = ab_Run ab_mt 21 27 ls (.int (nI 2) :: st) w := E_push (n := 1) rfl
theorem e_21_27 {ls : ab_L} {st : List Value} {w : ab_W} : ab_Run ab_mt 21 27 ls st w = ab_Run ab_mt 21 28 ls (.int (nI 0) :: st) w := E_push (n := 1) rfl
theorem e_21_28 {ls : ab_L} {st : List Value} {w : ab_W} {v0 v1 v2 v3 : Value} (h1 : ab_recv ab_mt 54 [v0, v1, v2, v3] w.2 = true) (h8 : ab_w8 st = true) : ab_Run ab_mt 21 28 ls (v3 :: v2 :: v1 :: v0 :: st) w = ab_aft 54 21 28 ls st (ab_Cl 54 [v0, v1, v2, v3] w) := E_call4 rfl h1 h8
theorem e_21_31 {ls : ab_L} {st : List Value} {w : ab_W} (h : ab_isR (ls 0) = true) : ab_Run ab_mt 21 31 ls st w = ab_Run ab_mt 21 32 ls (ab_gv (ls 0) :: st) w := E_loadr (n := 1) rfl h
theorem e_21_32 {ls : ab_L} {st : List Value} {w : ab_W} (h : ab_isI (ls 3) = true) : ab_Run ab_mt 21 32 ls st w = ab_Run ab_mt 21 33 ls (ab_gv (ls 3) :: st) w := E_loadi (n := 1) rfl h
theorem e_21_33 {ls : ab_L} {st : List Value} {w : ab_W} : ab_Run ab_mt 21 33 ls st w = ab_Run ab_mt 21 34 ls (.int (nI 3) :: st) w := E_push (n := 1) rfl
theorem e_21_34 {ls : ab_L} {st : List Value} {w : ab_W} : ab_Run ab_mt 21 34 ls st w = ab_Run ab_mt 21 35 ls (.int (nI 0) :: st) w := E_push (n := 1) rfl
theorem e_21_35 {ls : ab_L} {st : List Value} {w : ab_W} {v0 v1 v2 v3 : Value} (h1 : ab_recv ab_mt 54 [v0, v1, v2, v3] w.2 = true) (h8 : ab_w8 st = true) : ab_Run ab_mt 21 35 ls (v3 :: v2 :: v1 :: v0 :: st) w = ab_aft 54 21 35 ls st (ab_Cl 54 [v0, v1, v2, v3] w) := E_call4 rfl h1 h8
theorem e_21_38 {ls : ab_L} {st : List Value} {w : ab_W} (h : ab_isR (ls 0) = true) : ab_Run ab_mt 21 38 ls st w = ab_Run ab_mt 21 39 ls (ab_gv (ls 0) :: st) w := E_loadr (n := 1) rfl h
theorem e_21_39 {ls : ab_L} {st : List Value} {w : ab_W} (h : ab_isI (ls 3) = true) : ab_Run ab_mt 21 39 ls st w = ab_Run ab_mt 21 40 ls (ab_gv (ls 3) :: st) w := E_loadi (n := 1) rfl h
theorem e_21_40 {ls : ab_L} {st : List Value} {w : ab_W} : ab_Run ab_mt 21 40 ls st w = ab_Run ab_mt 21 41 ls (.int (nI 4) :: st) w := E_push (n := 1) rfl
theorem e_21_41 {ls : ab_L} {st : List Value} {w : ab_W} : ab_Run ab_mt 21 41 ls st w = ab_Run ab_mt 21 42 ls (.int (nI 1) :: st) w := E_push (n := 1) rfl
theorem e_21_42 {ls : ab_L} {st : List Value} {w : ab_W} {v0 v1 v2 v3 : Value} (h1 : ab_recv ab_mt 54 [v0, v1, v2, v3] w.2 = true) (h8 : ab_w8 st = true) : ab_Run ab_mt 21 42 ls (v3 :: v2 :: v1 :: v0 :: st) w = ab_aft 54 21 42 ls st (ab_Cl 54 [v0, v1, v2, v3] w) := E_call4 rfl h1 h8
theorem e_21_45 {ls : ab_L} {w : ab_W} : ab_Run ab_mt 21 45 ls [] w = some (.inl none, w) := E_ret0 rfl
theorem rv_21 {σ : ab_S} {x0 : Nat} {x1 : Int32} {x2 : Int32} : ab_recv ab_mt 21 [.ref x0, .int x1, .int x2] σ = true := rfl
theorem e_22_0 {ls : ab_L} {st : List Value} {w : ab_W} : ab_Run ab_mt 22 0 ls st w = ab_Run ab_mt 22 1 ls (.int (nI 0) :: st) w := E_push (n := 1) rfl
theorem e_22_1 {ls : ab_L} {st : List Value} {w : ab_W} {x : Int32} : ab_Run ab_mt 22 1 ls (.int x :: st) w = ab_Run ab_mt 22 2 (ab_l1 ls 2 (.int x)) st w := E_stori (n := 1) rfl
theorem e_22_2 {ls : ab_L} {st : List Value} {w : ab_W} (h : ab_isI (ls 2) = true) : ab_Run ab_mt 22 2 ls st w = ab_Run ab_mt 22 3 ls (ab_gv (ls 2) :: st) w := E_loadi (n := 1) rfl h
theorem e_22_3 {ls : ab_L} {st : List Value} {w : ab_W} (h : ab_isR (ls 0) = true) : ab_Run ab_mt 22 3 ls st w = ab_Run ab_mt 22 4 ls (ab_gv (ls 0) :: st) w := E_loadr (n := 1) rfl h
theorem e_22_4 {ls : ab_L} {st : List Value} {w : ab_W} {a : Nat} (h : ab_isF 3 3 (w.2 a) = true) : ab_Run ab_mt 22 4 ls (.ref a :: st) w = ab_Run ab_mt 22 7 ls (ab_fv 3 (w.2 a) :: st) w := E_get rfl h
theorem e_22_7 {ls : ab_L} {st : List Value} {w : ab_W} {x y : Int32} : ab_Run ab_mt 22 7 ls (.int y :: .int x :: st) w = if y ≤ x then ab_Run ab_mt 22 26 ls st w else ab_Run ab_mt 22 10 ls st w := E_ic_ge rfl
theorem e_22_10 {ls : ab_L} {st : List Value} {w : ab_W} (h : ab_isR (ls 0) = true) : ab_Run ab_mt 22 10 ls st w = ab_Run ab_mt 22 11 ls (ab_gv (ls 0) :: st) w := E_loadr (n := 1) rfl h
theorem e_22_11 {ls : ab_L} {st : List Value} {w : ab_W} (h : ab_isI (ls 2) = true) : ab_Run ab_mt 22 11 ls st w = ab_Run ab_mt 22 12 ls (ab_gv (ls 2) :: st) w := E_loadi (n := 1) rfl h
theorem e_22_12 {ls : ab_L} {st : List Value} {w : ab_W} : ab_Run ab_mt 22 12 ls st w = ab_Run ab_mt 22 13 ls (.int (nI 0) :: st) w := E_push (n := 1) rfl
theorem e_22_13 {ls : ab_L} {st : List Value} {w : ab_W} {v0 v1 v2 : Value} (h1 : ab_recv ab_mt 53 [v0, v1, v2] w.2 = true) (h8 : ab_w8 st = true) : ab_Run ab_mt 22 13 ls (v2 :: v1 :: v0 :: st) w = ab_aft 53 22 13 ls st (ab_Cl 53 [v0, v1, v2] w) := E_call3 rfl h1 h8
theorem e_22_16 {ls : ab_L} {st : List Value} {w : ab_W} (h : ab_isI (ls 1) = true) : ab_Run ab_mt 22 16 ls st w = ab_Run ab_mt 22 17 ls (ab_gv (ls 1) :: st) w := E_loadi (n := 1) rfl h
theorem e_22_17 {ls : ab_L} {st : List Value} {w : ab_W} {x y : Int32} : ab_Run ab_mt 22 17 ls (.int y :: .int x :: st) w = if y ≤ x then ab_Run ab_mt 22 26 ls st w else ab_Run ab_mt 22 20 ls st w := E_ic_ge rfl
theorem e_22_20 {ls : ab_L} {st : List Value} {w : ab_W} (h : ab_isI (ls 2) = true) : ab_Run ab_mt 22 20 ls st w = ab_Run ab_mt 22 23 (ab_l1 ls 2 (.int (ab_gi (ls 2) + (nI 1)))) st w := E_iinc rfl h
theorem e_22_23 {ls : ab_L} {st : List Value} {w : ab_W} : ab_Run ab_mt 22 23 ls st w = ab_Run ab_mt 22 2 ls st w := E_goto rfl
theorem e_22_26 {ls : ab_L} {st : List Value} {w : ab_W} (h : ab_isI (ls 2) = true) : ab_Run ab_mt 22 26 ls st w = ab_Run ab_mt 22 27 ls (ab_gv (ls 2) :: st) w := E_loadi (n := 1) rfl h
theorem e_22_27 {ls : ab_L} {w : ab_W} {x : Int32} : ab_Run ab_mt 22 27 ls [.int x] w = some (.inl (some (.int x)), w) := E_reti rfl
theorem rv_22 {σ : ab_S} {x0 : Nat} {x1 : Int32} : ab_recv ab_mt 22 [.ref x0, .int x1] σ = true := rfl
theorem e_23_0 {ls : ab_L} {st : List Value} {w : ab_W} (h : ab_isI (ls 1) = true) : ab_Run ab_mt 23 0 ls st w = ab_Run ab_mt 23 1 ls (ab_gv (ls 1) :: st) w := E_loadi (n := 1) rfl h
theorem e_23_1 {ls : ab_L} {st : List Value} {w : ab_W} (h : ab_isR (ls 0) = true) : ab_Run ab_mt 23 1 ls st w = ab_Run ab_mt 23 2 ls (ab_gv (ls 0) :: st) w := E_loadr (n := 1) rfl h
theorem e_23_2 {ls : ab_L} {st : List Value} {w : ab_W} {a : Nat} (h : ab_isF 3 3 (w.2 a) = true) : ab_Run ab_mt 23 2 ls (.ref a :: st) w = ab_Run ab_mt 23 5 ls (ab_fv 3 (w.2 a) :: st) w := E_get rfl h
theorem e_23_5 {ls : ab_L} {st : List Value} {w : ab_W} {x y : Int32} : ab_Run ab_mt 23 5 ls (.int y :: .int x :: st) w = if y ≤ x then ab_Run ab_mt 23 22 ls st w else ab_Run ab_mt 23 8 ls st w := E_ic_ge rfl
theorem e_23_8 {ls : ab_L} {st : List Value} {w : ab_W} (h : ab_isR (ls 0) = true) : ab_Run ab_mt 23 8 ls st w = ab_Run ab_mt 23 9 ls (ab_gv (ls 0) :: st) w := E_loadr (n := 1) rfl h
theorem e_23_9 {ls : ab_L} {st : List Value} {w : ab_W} (h : ab_isI (ls 1) = true) : ab_Run ab_mt 23 9 ls st w = ab_Run ab_mt 23 10 ls (ab_gv (ls 1) :: st) w := E_loadi (n := 1) rfl h
theorem e_23_10 {ls : ab_L} {st : List Value} {w : ab_W} : ab_Run ab_mt 23 10 ls st w = ab_Run ab_mt 23 11 ls (.int (nI 0) :: st) w := E_push (n := 1) rfl
theorem e_23_11 {ls : ab_L} {st : List Value} {w : ab_W} {v0 v1 v2 : Value} (h1 : ab_recv ab_mt 53 [v0, v1, v2] w.2 = true) (h8 : ab_w8 st = true) : ab_Run ab_mt 23 11 ls (v2 :: v1 :: v0 :: st) w = ab_aft 53 23 11 ls st (ab_Cl 53 [v0, v1, v2] w) := E_call3 rfl h1 h8
theorem e_23_14 {ls : ab_L} {st : List Value} {w : ab_W} (h : ab_isI (ls 2) = true) : ab_Run ab_mt 23 14 ls st w = ab_Run ab_mt 23 15 ls (ab_gv (ls 2) :: st) w := E_loadi (n := 1) rfl h
theorem e_23_15 {ls : ab_L} {st : List Value} {w : ab_W} {x y : Int32} : ab_Run ab_mt 23 15 ls (.int y :: .int x :: st) w = if x = y then ab_Run ab_mt 23 18 ls st w else ab_Run ab_mt 23 22 ls st w := E_ic_ne rfl
theorem e_23_18 {ls : ab_L} {st : List Value} {w : ab_W} : ab_Run ab_mt 23 18 ls st w = ab_Run ab_mt 23 19 ls (.int (nI 1) :: st) w := E_push (n := 1) rfl
theorem e_23_19 {ls : ab_L} {st : List Value} {w : ab_W} : ab_Run ab_mt 23 19 ls st w = ab_Run ab_mt 23 23 ls st w := E_goto rfl
theorem e_23_22 {ls : ab_L} {st : List Value} {w : ab_W} : ab_Run ab_mt 23 22 ls st w = ab_Run ab_mt 23 23 ls (.int (nI 0) :: st) w := E_push (n := 1) rfl
theorem e_23_23 {ls : ab_L} {w : ab_W} {x : Int32} (h : ab_fitr 2 (.int x) = true) : ab_Run ab_mt 23 23 ls [.int x] w = some (.inl (some (.int x)), w) := E_retz rfl h
theorem rv_23 {σ : ab_S} {x0 : Nat} {x1 : Int32} {x2 : Int32} : ab_recv ab_mt 23 [.ref x0, .int x1, .int x2] σ = true := rfl
theorem e_24_0 {ls : ab_L} {st : List Value} {w : ab_W} (h : ab_isR (ls 0) = true) : ab_Run ab_mt 24 0 ls st w = ab_Run ab_mt 24 1 ls (ab_gv (ls 0) :: st) w := E_loadr (n := 1) rfl h
theorem e_24_1 {ls : ab_L} {st : List Value} {w : ab_W} (h : ab_isI (ls 1) = true) : ab_Run ab_mt 24 1 ls st w = ab_Run ab_mt 24 2 ls (ab_gv (ls 1) :: st) w := E_loadi (n := 1) rfl h
theorem e_24_2 {ls : ab_L} {st : List Value} {w : ab_W} {v0 v1 : Value} (h1 : ab_recv ab_mt 22 [v0, v1] w.2 = true) (h8 : ab_w8 st = true) : ab_Run ab_mt 24 2 ls (v1 :: v0 :: st) w = ab_aft 22 24 2 ls st (ab_Cl 22 [v0, v1] w) := E_call2 rfl h1 h8
theorem e_24_5 {ls : ab_L} {st : List Value} {w : ab_W} {x : Int32} : ab_Run ab_mt 24 5 ls (.int x :: st) w = ab_Run ab_mt 24 7 (ab_l1 ls 4 (.int x)) st w := E_stori (n := 2) rfl
theorem e_24_7 {ls : ab_L} {st : List Value} {w : ab_W} (h : ab_isR (ls 0) = true) : ab_Run ab_mt 24 7 ls st w = ab_Run ab_mt 24 8 ls (ab_gv (ls 0) :: st) w := E_loadr (n := 1) rfl h
theorem e_24_8 {ls : ab_L} {st : List Value} {w : ab_W} (h : ab_isI (ls 4) = true) : ab_Run ab_mt 24 8 ls st w = ab_Run ab_mt 24 10 ls (ab_gv (ls 4) :: st) w := E_loadi (n := 2) rfl h
theorem e_24_10 {ls : ab_L} {st : List Value} {w : ab_W} (h : ab_isI (ls 1) = true) : ab_Run ab_mt 24 10 ls st w = ab_Run ab_mt 24 11 ls (ab_gv (ls 1) :: st) w := E_loadi (n := 1) rfl h
theorem e_24_11 {ls : ab_L} {st : List Value} {w : ab_W} {v0 v1 v2 : Value} (h1 : ab_recv ab_mt 23 [v0, v1, v2] w.2 = true) (h8 : ab_w8 st = true) : ab_Run ab_mt 24 11 ls (v2 :: v1 :: v0 :: st) w = ab_aft 23 24 11 ls st (ab_Cl 23 [v0, v1, v2] w) := E_call3 rfl h1 h8
theorem e_24_14 {ls : ab_L} {st : List Value} {w : ab_W} {x : Int32} : ab_Run ab_mt 24 14 ls (.int x :: st) w = if x = 0 then ab_Run ab_mt 24 17 ls st w else ab_Run ab_mt 24 23 ls st w := E_if_ne rfl
theorem e_24_17 {ls : ab_L} {st : List Value} {w : ab_W} (h : ab_isR (ls 0) = true) : ab_Run ab_mt 24 17 ls st w = ab_Run ab_mt 24 18 ls (ab_gv (ls 0) :: st) w := E_loadr (n := 1) rfl h
theorem e_24_18 {ls : ab_L} {st : List Value} {w : ab_W} (h : ab_isI (ls 4) = true) : ab_Run ab_mt 24 18 ls st w = ab_Run ab_mt 24 20 ls (ab_gv (ls 4) :: st) w := E_loadi (n := 2) rfl h
theorem e_24_20 {ls : ab_L} {st : List Value} {w : ab_W} {v0 v1 : Value} (h1 : ab_recv ab_mt 55 [v0, v1] w.2 = true) (h8 : ab_w8 st = true) : ab_Run ab_mt 24 20 ls (v1 :: v0 :: st) w = ab_aft 55 24 20 ls st (ab_Cl 55 [v0, v1] w) := E_call2 rfl h1 h8
theorem e_24_23 {ls : ab_L} {st : List Value} {w : ab_W} (h : ab_isR (ls 0) = true) : ab_Run ab_mt 24 23 ls st w = ab_Run ab_mt 24 24 ls (ab_gv (ls 0) :: st) w := E_loadr (n := 1) rfl h
theorem e_24_24 {ls : ab_L} {st : List Value} {w : ab_W} (h : ab_isI (ls 4) = true) : ab_Run ab_mt 24 24 ls st w = ab_Run ab_mt 24 26 ls (ab_gv (ls 4) :: st) w := E_loadi (n := 2) rfl h
theorem e_24_26 {ls : ab_L} {st : List Value} {w : ab_W} : ab_Run ab_mt 24 26 ls st w = ab_Run ab_mt 24 27 ls (.int (nI 0) :: st) w := E_push (n := 1) rfl
theorem e_24_27 {ls : ab_L} {st : List Value} {w : ab_W} (h : ab_isI (ls 1) = true) : ab_Run ab_mt 24 27 ls st w = ab_Run ab_mt 24 28 ls (ab_gv (ls 1) :: st) w := E_loadi (n := 1) rfl h
theorem e_24_28 {ls : ab_L} {st : List Value} {w : ab_W} {v0 v1 v2 v3 : Value} (h1 : ab_recv ab_mt 54 [v0, v1, v2, v3] w.2 = true) (h8 : ab_w8 st = true) : ab_Run ab_mt 24 28 ls (v3 :: v2 :: v1 :: v0 :: st) w = ab_aft 54 24 28 ls st (ab_Cl 54 [v0, v1, v2, v3] w) := E_call4 rfl h1 h8
theorem e_24_31 {ls : ab_L} {st : List Value} {w : ab_W} (h : ab_isR (ls 0) = true) : ab_Run ab_mt 24 31 ls st w = ab_Run ab_mt 24 32 ls (ab_gv (ls 0) :: st) w := E_loadr (n := 1) rfl h
theorem e_24_32 {ls : ab_L} {st : List Value} {w : ab_W} (h : ab_isI (ls 4) = true) : ab_Run ab_mt 24 32 ls st w = ab_Run ab_mt 24 34 ls (ab_gv (ls 4) :: st) w := E_loadi (n := 2) rfl h
theorem e_24_34 {ls : ab_L} {st : List Value} {w : ab_W} : ab_Run ab_mt 24 34 ls st w = ab_Run ab_mt 24 35 ls (.int (nI 1) :: st) w := E_push (n := 1) rfl
theorem e_24_35 {ls : ab_L} {st : List Value} {w : ab_W} (h : ab_isI (ls 2) = true) : ab_Run ab_mt 24 35 ls st w = ab_Run ab_mt 24 36 ls (ab_gv (ls 2) :: st) w := E_loadi (n := 1) rfl h
theorem e_24_36 {ls : ab_L} {st : List Value} {w : ab_W} {v0 v1 v2 v3 : Value} (h1 : ab_recv ab_mt 54 [v0, v1, v2, v3] w.2 = true) (h8 : ab_w8 st = true) : ab_Run ab_mt 24 36 ls (v3 :: v2 :: v1 :: v0 :: st) w = ab_aft 54 24 36 ls st (ab_Cl 54 [v0, v1, v2, v3] w) := E_call4 rfl h1 h8
theorem e_24_39 {ls : ab_L} {st : List Value} {w : ab_W} (h : ab_isR (ls 0) = true) : ab_Run ab_mt 24 39 ls st w = ab_Run ab_mt 24 40 ls (ab_gv (ls 0) :: st) w := E_loadr (n := 1) rfl h
theorem e_24_40 {ls : ab_L} {st : List Value} {w : ab_W} (h : ab_isI (ls 4) = true) : ab_Run ab_mt 24 40 ls st w = ab_Run ab_mt 24 42 ls (ab_gv (ls 4) :: st) w := E_loadi (n := 2) rfl h
theorem e_24_42 {ls : ab_L} {st : List Value} {w : ab_W} : ab_Run ab_mt 24 42 ls st w = ab_Run ab_mt 24 43 ls (.int (nI 2) :: st) w := E_push (n := 1) rfl
theorem e_24_43 {ls : ab_L} {st : List Value} {w : ab_W} (h : ab_isI (ls 3) = true) : ab_Run ab_mt 24 43 ls st w = ab_Run ab_mt 24 44 ls (ab_gv (ls 3) :: st) w := E_loadi (n := 1) rfl h
theorem e_24_44 {ls : ab_L} {st : List Value} {w : ab_W} {x : Int32} : ab_Run ab_mt 24 44 ls (.int x :: st) w = if x = 0 then ab_Run ab_mt 24 51 ls st w else ab_Run ab_mt 24 47 ls st w := E_if_eq rfl
theorem e_24_47 {ls : ab_L} {st : List Value} {w : ab_W} : ab_Run ab_mt 24 47 ls st w = ab_Run ab_mt 24 48 ls (.int (nI 1) :: st) w := E_push (n := 1) rfl
theorem e_24_48 {ls : ab_L} {st : List Value} {w : ab_W} : ab_Run ab_mt 24 48 ls st w = ab_Run ab_mt 24 52 ls st w := E_goto rfl
theorem e_24_51 {ls : ab_L} {st : List Value} {w : ab_W} : ab_Run ab_mt 24 51 ls st w = ab_Run ab_mt 24 52 ls (.int (nI 0) :: st) w := E_push (n := 1) rfl
theorem e_24_52 {ls : ab_L} {st : List Value} {w : ab_W} {v0 v1 v2 v3 : Value} (h1 : ab_recv ab_mt 54 [v0, v1, v2, v3] w.2 = true) (h8 : ab_w8 st = true) : ab_Run ab_mt 24 52 ls (v3 :: v2 :: v1 :: v0 :: st) w = ab_aft 54 24 52 ls st (ab_Cl 54 [v0, v1, v2, v3] w) := E_call4 rfl h1 h8
theorem e_24_55 {ls : ab_L} {w : ab_W} : ab_Run ab_mt 24 55 ls [] w = some (.inl none, w) := E_ret0 rfl
theorem rv_24 {σ : ab_S} {x0 : Nat} {x1 : Int32} {x2 : Int32} {x3 : Int32} : ab_recv ab_mt 24 [.ref x0, .int x1, .int x2, .int x3] σ = true := rfl
theorem e_25_0 {ls : ab_L} {st : List Value} {w : ab_W} (h : ab_isL (ls 2) = true) (h2 : (ls 3).isNone = true) : ab_Run ab_mt 25 0 ls st w = ab_Run ab_mt 25 1 ls (ab_gv (ls 2) :: st) w := E_loadl (n := 1) rfl h h2
theorem e_25_1 {ls : ab_L} {st : List Value} {w : ab_W} : ab_Run ab_mt 25 1 ls st w = ab_Run ab_mt 25 2 ls (.long (lN 0) :: st) w := E_push (n := 1) rfl
theorem e_25_2 {ls : ab_L} {st : List Value} {w : ab_W} {x y : Int64} : ab_Run ab_mt 25 2 ls (.long y :: .long x :: st) w = ab_Run ab_mt 25 3 ls (.int (lg_cmp x y) :: st) w := E_lcmp rfl
theorem e_25_3 {ls : ab_L} {st : List Value} {w : ab_W} {x : Int32} : ab_Run ab_mt 25 3 ls (.int x :: st) w = if x ≤ 0 then ab_Run ab_mt 25 12 ls st w else ab_Run ab_mt 25 6 ls st w := E_if_le rfl
theorem e_25_6 {ls : ab_L} {st : List Value} {w : ab_W} (h : ab_isL (ls 0) = true) (h2 : (ls 1).isNone = true) : ab_Run ab_mt 25 6 ls st w = ab_Run ab_mt 25 7 ls (ab_gv (ls 0) :: st) w := E_loadl (n := 1) rfl h h2
theorem e_25_7 {ls : ab_L} {st : List Value} {w : ab_W} (h : ab_isL (ls 2) = true) (h2 : (ls 3).isNone = true) : ab_Run ab_mt 25 7 ls st w = ab_Run ab_mt 25 8 ls (ab_gv (ls 2) :: st) w := E_loadl (n := 1) rfl h h2
theorem e_25_8 {ls : ab_L} {st : List Value} {w : ab_W} {x y : Int64} (h : ¬ y = 0) : ab_Run ab_mt 25 8 ls (.long y :: .long x :: st) w = ab_Run ab_mt 25 9 ls (.long (x / y) :: st) w := E_ldv (f := fun x y => x / y) rfl h
theorem e_25_9 {ls : ab_L} {st : List Value} {w : ab_W} : ab_Run ab_mt 25 9 ls st w = ab_Run ab_mt 25 13 ls st w := E_goto rfl
theorem e_25_12 {ls : ab_L} {st : List Value} {w : ab_W} : ab_Run ab_mt 25 12 ls st w = ab_Run ab_mt 25 13 ls (.long (lN 0) :: st) w := E_push (n := 1) rfl
theorem e_25_13 {ls : ab_L} {w : ab_W} {x : Int64} : ab_Run ab_mt 25 13 ls [.long x] w = some (.inl (some (.long x)), w) := E_retl rfl
theorem rv_25 {σ : ab_S} {x0 : Int64} {x1 : Int64} : ab_recv ab_mt 25 [.long x0, .long x1] σ = true := rfl
theorem e_26_0 {ls : ab_L} {st : List Value} {w : ab_W} (h : ab_isR (ls 0) = true) : ab_Run ab_mt 26 0 ls st w = ab_Run ab_mt 26 1 ls (ab_gv (ls 0) :: st) w := E_loadr (n := 1) rfl h
theorem e_26_1 {ls : ab_L} {st : List Value} {w : ab_W} {a : Nat} (h8 : ab_w8 st = true) : ab_Run ab_mt 26 1 ls (.ref a :: st) w = ab_Run ab_mt 26 4 ls st w := E_oini rfl h8
theorem e_26_4 {ls : ab_L} {st : List Value} {w : ab_W} (h : ab_isR (ls 0) = true) : ab_Run ab_mt 26 4 ls st w = ab_Run ab_mt 26 5 ls (ab_gv (ls 0) :: st) w := E_loadr (n := 1) rfl h
theorem e_26_5 {ls : ab_L} {st : List Value} {w : ab_W} (h : w.1.1 = true) : ab_Run ab_mt 26 5 ls st w = ab_Run ab_mt 26 8 ls (.ref w.1.2.1 :: st) (ab_mk w.1 w.2 (ab_ob 2 [.null, .null, .null]) 3) := E_new (n := 3) (x := ab_ob 2 [.null, .null, .null]) (sz := 3) (rest := st) rfl rfl h
theorem e_26_8 {ls : ab_L} {st : List Value} {w : ab_W} {x : Nat} : ab_Run ab_mt 26 8 ls (.ref x :: st) w = ab_Run ab_mt 26 9 ls (.ref x :: .ref x :: st) w := E_dup_r rfl
theorem e_26_9 {ls : ab_L} {st : List Value} {w : ab_W} {v0 : Value} (h1 : ab_recv ab_mt 50 [v0] w.2 = true) (h8 : ab_w8 st = true) : ab_Run ab_mt 26 9 ls (v0 :: st) w = ab_aft 50 26 9 ls st (ab_Cl 50 [v0] w) := E_call1 rfl h1 h8
theorem e_26_12 {ls : ab_L} {st : List Value} {w : ab_W} {a : Nat} {x : Nat} (h : ab_isF 1 0 (w.2 a) = true) : ab_Run ab_mt 26 12 ls (.ref x :: .ref a :: st) w = ab_Run ab_mt 26 15 ls st (w.1, ab_up w.2 a (ab_sf 0 (.ref x) (w.2 a))) := E_put rfl h rfl
theorem e_26_15 {ls : ab_L} {st : List Value} {w : ab_W} (h : ab_isR (ls 0) = true) : ab_Run ab_mt 26 15 ls st w = ab_Run ab_mt 26 16 ls (ab_gv (ls 0) :: st) w := E_loadr (n := 1) rfl h
theorem e_26_16 {ls : ab_L} {st : List Value} {w : ab_W} : ab_Run ab_mt 26 16 ls st w = ab_Run ab_mt 26 18 ls (.int (nI 24) :: st) w := E_push (n := 2) rfl
theorem e_26_18 {ls : ab_L} {st : List Value} {w : ab_W} {n : Int32} (h : w.1.1 = true) (hn : ¬ (n < 0 ∨ 60000 < n.toNatClampNeg)) : ab_Run ab_mt 26 18 ls (.int n :: st) w = ab_Run ab_mt 26 20 ls (.ref w.1.2.1 :: st) (ab_mk w.1 w.2 (ab_ia n.toNatClampNeg (fun _ => 0)) n.toNatClampNeg) := E_new (n := 2) (x := ab_ia n.toNatClampNeg (fun _ => 0)) (sz := n.toNatClampNeg) (rest := st) rfl (if_neg hn) h
theorem e_26_20 {ls : ab_L} {st : List Value} {w : ab_W} {a : Nat} {x : Nat} (h : ab_isF 1 1 (w.2 a) = true) : ab_Run ab_mt 26 20 ls (.ref x :: .ref a :: st) w = ab_Run ab_mt 26 23 ls st (w.1, ab_up w.2 a (ab_sf 1 (.ref x) (w.2 a))) := E_put rfl h rfl
theorem e_26_23 {ls : ab_L} {st : List Value} {w : ab_W} (h : ab_isR (ls 0) = true) : ab_Run ab_mt 26 23 ls st w = ab_Run ab_mt 26 24 ls (ab_gv (ls 0) :: st) w := E_loadr (n := 1) rfl h
theorem e_26_24 {ls : ab_L} {st : List Value} {w : ab_W} : ab_Run ab_mt 26 24 ls st w = ab_Run ab_mt 26 27 ls (.int (nI 288) :: st) w := E_push (n := 3) rfl
theorem e_26_27 {ls : ab_L} {st : List Value} {w : ab_W} {n : Int32} (h : w.1.1 = true) (hn : ¬ (n < 0 ∨ 60000 < n.toNatClampNeg)) : ab_Run ab_mt 26 27 ls (.int n :: st) w = ab_Run ab_mt 26 29 ls (.ref w.1.2.1 :: st) (ab_mk w.1 w.2 (ab_ia n.toNatClampNeg (fun _ => 0)) n.toNatClampNeg) := E_new (n := 2) (x := ab_ia n.toNatClampNeg (fun _ => 0)) (sz := n.toNatClampNeg) (rest := st) rfl (if_neg hn) h
theorem e_26_29 {ls : ab_L} {st : List Value} {w : ab_W} {a : Nat} {x : Nat} (h : ab_isF 1 2 (w.2 a) = true) : ab_Run ab_mt 26 29 ls (.ref x :: .ref a :: st) w = ab_Run ab_mt 26 32 ls st (w.1, ab_up w.2 a (ab_sf 2 (.ref x) (w.2 a))) := E_put rfl h rfl
theorem e_26_32 {ls : ab_L} {st : List Value} {w : ab_W} (h : ab_isR (ls 0) = true) : ab_Run ab_mt 26 32 ls st w = ab_Run ab_mt 26 33 ls (ab_gv (ls 0) :: st) w := E_loadr (n := 1) rfl h
theorem e_26_33 {ls : ab_L} {st : List Value} {w : ab_W} : ab_Run ab_mt 26 33 ls st w = ab_Run ab_mt 26 36 ls (.int (nI 288) :: st) w := E_push (n := 3) rfl
theorem e_26_36 {ls : ab_L} {st : List Value} {w : ab_W} {n : Int32} (h : w.1.1 = true) (hn : ¬ (n < 0 ∨ 60000 < n.toNatClampNeg)) : ab_Run ab_mt 26 36 ls (.int n :: st) w = ab_Run ab_mt 26 38 ls (.ref w.1.2.1 :: st) (ab_mk w.1 w.2 (ab_ia n.toNatClampNeg (fun _ => 0)) n.toNatClampNeg) := E_new (n := 2) (x := ab_ia n.toNatClampNeg (fun _ => 0)) (sz := n.toNatClampNeg) (rest := st) rfl (if_neg hn) h
theorem e_26_38 {ls : ab_L} {st : List Value} {w : ab_W} {a : Nat} {x : Nat} (h : ab_isF 1 3 (w.2 a) = true) : ab_Run ab_mt 26 38 ls (.ref x :: .ref a :: st) w = ab_Run ab_mt 26 41 ls st (w.1, ab_up w.2 a (ab_sf 3 (.ref x) (w.2 a))) := E_put rfl h rfl
theorem e_26_41 {ls : ab_L} {st : List Value} {w : ab_W} (h : ab_isR (ls 0) = true) : ab_Run ab_mt 26 41 ls st w = ab_Run ab_mt 26 42 ls (ab_gv (ls 0) :: st) w := E_loadr (n := 1) rfl h
theorem e_26_42 {ls : ab_L} {st : List Value} {w : ab_W} : ab_Run ab_mt 26 42 ls st w = ab_Run ab_mt 26 45 ls (.int (nI 288) :: st) w := E_push (n := 3) rfl
theorem e_26_45 {ls : ab_L} {st : List Value} {w : ab_W} {n : Int32} (h : w.1.1 = true) (hn : ¬ (n < 0 ∨ 60000 < n.toNatClampNeg)) : ab_Run ab_mt 26 45 ls (.int n :: st) w = ab_Run ab_mt 26 47 ls (.ref w.1.2.1 :: st) (ab_mk w.1 w.2 (ab_la n.toNatClampNeg (fun _ => 0)) n.toNatClampNeg) := E_new (n := 2) (x := ab_la n.toNatClampNeg (fun _ => 0)) (sz := n.toNatClampNeg) (rest := st) rfl (if_neg hn) h
theorem e_26_47 {ls : ab_L} {st : List Value} {w : ab_W} {a : Nat} {x : Nat} (h : ab_isF 1 4 (w.2 a) = true) : ab_Run ab_mt 26 47 ls (.ref x :: .ref a :: st) w = ab_Run ab_mt 26 50 ls st (w.1, ab_up w.2 a (ab_sf 4 (.ref x) (w.2 a))) := E_put rfl h rfl
theorem e_26_50 {ls : ab_L} {st : List Value} {w : ab_W} (h : ab_isR (ls 0) = true) : ab_Run ab_mt 26 50 ls st w = ab_Run ab_mt 26 51 ls (ab_gv (ls 0) :: st) w := E_loadr (n := 1) rfl h
theorem e_26_51 {ls : ab_L} {st : List Value} {w : ab_W} : ab_Run ab_mt 26 51 ls st w = ab_Run ab_mt 26 54 ls (.int (nI 288) :: st) w := E_push (n := 3) rfl
theorem e_26_54 {ls : ab_L} {st : List Value} {w : ab_W} {n : Int32} (h : w.1.1 = true) (hn : ¬ (n < 0 ∨ 60000 < n.toNatClampNeg)) : ab_Run ab_mt 26 54 ls (.int n :: st) w = ab_Run ab_mt 26 56 ls (.ref w.1.2.1 :: st) (ab_mk w.1 w.2 (ab_la n.toNatClampNeg (fun _ => 0)) n.toNatClampNeg) := E_new (n := 2) (x := ab_la n.toNatClampNeg (fun _ => 0)) (sz := n.toNatClampNeg) (rest := st) rfl (if_neg hn) h
theorem e_26_56 {ls : ab_L} {st : List Value} {w : ab_W} {a : Nat} {x : Nat} (h : ab_isF 1 5 (w.2 a) = true) : ab_Run ab_mt 26 56 ls (.ref x :: .ref a :: st) w = ab_Run ab_mt 26 59 ls st (w.1, ab_up w.2 a (ab_sf 5 (.ref x) (w.2 a))) := E_put rfl h rfl
theorem e_26_59 {ls : ab_L} {w : ab_W} : ab_Run ab_mt 26 59 ls [] w = some (.inl none, w) := E_ret0 rfl
theorem rv_26 {σ : ab_S} {t : Nat} : ab_recv ab_mt 26 [.ref t] σ = ab_isO 1 (σ t) := rfl
theorem e_27_0 {ls : ab_L} {st : List Value} {w : ab_W} (h : ab_isR (ls 0) = true) : ab_Run ab_mt 27 0 ls st w = ab_Run ab_mt 27 1 ls (ab_gv (ls 0) :: st) w := E_loadr (n := 1) rfl h
theorem e_27_1 {ls : ab_L} {st : List Value} {w : ab_W} {v0 : Value} (h1 : ab_recv ab_mt 28 [v0] w.2 = true) (h8 : ab_w8 st = true) : ab_Run ab_mt 27 1 ls (v0 :: st) w = ab_aft 28 27 1 ls st (ab_Cl 28 [v0] w) := E_call1 rfl h1 h8
theorem e_27_4 {ls : ab_L} {st : List Value} {w : ab_W} (h : ab_isR (ls 0) = true) : ab_Run ab_mt 27 4 ls st w = ab_Run ab_mt 27 5 ls (ab_gv (ls 0) :: st) w := E_loadr (n := 1) rfl h
theorem e_27_5 {ls : ab_L} {st : List Value} {w : ab_W} {v0 : Value} (h1 : ab_recv ab_mt 29 [v0] w.2 = true) (h8 : ab_w8 st = true) : ab_Run ab_mt 27 5 ls (v0 :: st) w = ab_aft 29 27 5 ls st (ab_Cl 29 [v0] w) := E_call1 rfl h1 h8
theorem e_27_8 {ls : ab_L} {st : List Value} {w : ab_W} (h : ab_isR (ls 0) = true) : ab_Run ab_mt 27 8 ls st w = ab_Run ab_mt 27 9 ls (ab_gv (ls 0) :: st) w := E_loadr (n := 1) rfl h
theorem e_27_9 {ls : ab_L} {st : List Value} {w : ab_W} {v0 : Value} (h1 : ab_recv ab_mt 31 [v0] w.2 = true) (h8 : ab_w8 st = true) : ab_Run ab_mt 27 9 ls (v0 :: st) w = ab_aft 31 27 9 ls st (ab_Cl 31 [v0] w) := E_call1 rfl h1 h8
theorem e_27_12 {ls : ab_L} {st : List Value} {w : ab_W} (h : ab_isR (ls 0) = true) : ab_Run ab_mt 27 12 ls st w = ab_Run ab_mt 27 13 ls (ab_gv (ls 0) :: st) w := E_loadr (n := 1) rfl h
theorem e_27_13 {ls : ab_L} {st : List Value} {w : ab_W} {a : Nat} (h : ab_isF 1 0 (w.2 a) = true) : ab_Run ab_mt 27 13 ls (.ref a :: st) w = ab_Run ab_mt 27 16 ls (ab_fv 0 (w.2 a) :: st) w := E_get rfl h
theorem e_27_16 {ls : ab_L} {st : List Value} {w : ab_W} {a : Nat} (h : ab_isF 2 2 (w.2 a) = true) : ab_Run ab_mt 27 16 ls (.ref a :: st) w = ab_Run ab_mt 27 19 ls (ab_fv 2 (w.2 a) :: st) w := E_get rfl h
theorem e_27_19 {ls : ab_L} {st : List Value} {w : ab_W} {a : Nat} (h : ab_isF 3 3 (w.2 a) = true) : ab_Run ab_mt 27 19 ls (.ref a :: st) w = ab_Run ab_mt 27 22 ls (ab_fv 3 (w.2 a) :: st) w := E_get rfl h
theorem e_27_22 {ls : ab_L} {st : List Value} {w : ab_W} : ab_Run ab_mt 27 22 ls st w = ab_Run ab_mt 27 23 ls (.int (nI 1) :: st) w := E_push (n := 1) rfl
theorem e_27_23 {ls : ab_L} {st : List Value} {w : ab_W} {x y : Int32} : ab_Run ab_mt 27 23 ls (.int y :: .int x :: st) w = ab_Run ab_mt 27 24 ls (.int (x - y) :: st) w := E_ib (f := fun x y => x - y) rfl
theorem e_27_24 {ls : ab_L} {st : List Value} {w : ab_W} {x : Int32} : ab_Run ab_mt 27 24 ls (.int x :: st) w = ab_Run ab_mt 27 25 (ab_l1 ls 1 (.int x)) st w := E_stori (n := 1) rfl
theorem e_27_25 {ls : ab_L} {st : List Value} {w : ab_W} (h : ab_isI (ls 1) = true) : ab_Run ab_mt 27 25 ls st w = ab_Run ab_mt 27 26 ls (ab_gv (ls 1) :: st) w := E_loadi (n := 1) rfl h
theorem e_27_26 {ls : ab_L} {st : List Value} {w : ab_W} {x : Int32} : ab_Run ab_mt 27 26 ls (.int x :: st) w = if x < 0 then ab_Run ab_mt 27 65 ls st w else ab_Run ab_mt 27 29 ls st w := E_if_lt rfl
theorem e_27_29 {ls : ab_L} {st : List Value} {w : ab_W} (h : ab_isR (ls 0) = true) : ab_Run ab_mt 27 29 ls st w = ab_Run ab_mt 27 30 ls (ab_gv (ls 0) :: st) w := E_loadr (n := 1) rfl h
theorem e_27_30 {ls : ab_L} {st : List Value} {w : ab_W} {a : Nat} (h : ab_isF 1 0 (w.2 a) = true) : ab_Run ab_mt 27 30 ls (.ref a :: st) w = ab_Run ab_mt 27 33 ls (ab_fv 0 (w.2 a) :: st) w := E_get rfl h
theorem e_27_33 {ls : ab_L} {st : List Value} {w : ab_W} {a : Nat} (h : ab_isF 2 2 (w.2 a) = true) : ab_Run ab_mt 27 33 ls (.ref a :: st) w = ab_Run ab_mt 27 36 ls (ab_fv 2 (w.2 a) :: st) w := E_get rfl h
theorem e_27_36 {ls : ab_L} {st : List Value} {w : ab_W} (h : ab_isI (ls 1) = true) : ab_Run ab_mt 27 36 ls st w = ab_Run ab_mt 27 37 ls (ab_gv (ls 1) :: st) w := E_loadi (n := 1) rfl h
theorem e_27_37 {ls : ab_L} {st : List Value} {w : ab_W} : ab_Run ab_mt 27 37 ls st w = ab_Run ab_mt 27 38 ls (.int (nI 0) :: st) w := E_push (n := 1) rfl
theorem e_27_38 {ls : ab_L} {st : List Value} {w : ab_W} {v0 v1 v2 : Value} (h1 : ab_recv ab_mt 53 [v0, v1, v2] w.2 = true) (h8 : ab_w8 st = true) : ab_Run ab_mt 27 38 ls (v2 :: v1 :: v0 :: st) w = ab_aft 53 27 38 ls st (ab_Cl 53 [v0, v1, v2] w) := E_call3 rfl h1 h8
theorem e_27_41 {ls : ab_L} {st : List Value} {w : ab_W} (h : ab_isR (ls 0) = true) : ab_Run ab_mt 27 41 ls st w = ab_Run ab_mt 27 42 ls (ab_gv (ls 0) :: st) w := E_loadr (n := 1) rfl h
theorem e_27_42 {ls : ab_L} {st : List Value} {w : ab_W} {a : Nat} (h : ab_isF 1 6 (w.2 a) = true) : ab_Run ab_mt 27 42 ls (.ref a :: st) w = ab_Run ab_mt 27 45 ls (ab_fv 6 (w.2 a) :: st) w := E_get rfl h
theorem e_27_45 {ls : ab_L} {st : List Value} {w : ab_W} {x y : Int32} : ab_Run ab_mt 27 45 ls (.int y :: .int x :: st) w = if x < y then ab_Run ab_mt 27 59 ls st w else ab_Run ab_mt 27 48 ls st w := E_ic_lt rfl
theorem e_27_48 {ls : ab_L} {st : List Value} {w : ab_W} (h : ab_isR (ls 0) = true) : ab_Run ab_mt 27 48 ls st w = ab_Run ab_mt 27 49 ls (ab_gv (ls 0) :: st) w := E_loadr (n := 1) rfl h
theorem e_27_49 {ls : ab_L} {st : List Value} {w : ab_W} {a : Nat} (h : ab_isF 1 0 (w.2 a) = true) : ab_Run ab_mt 27 49 ls (.ref a :: st) w = ab_Run ab_mt 27 52 ls (ab_fv 0 (w.2 a) :: st) w := E_get rfl h
theorem e_27_52 {ls : ab_L} {st : List Value} {w : ab_W} {a : Nat} (h : ab_isF 2 2 (w.2 a) = true) : ab_Run ab_mt 27 52 ls (.ref a :: st) w = ab_Run ab_mt 27 55 ls (ab_fv 2 (w.2 a) :: st) w := E_get rfl h
theorem e_27_55 {ls : ab_L} {st : List Value} {w : ab_W} (h : ab_isI (ls 1) = true) : ab_Run ab_mt 27 55 ls st w = ab_Run ab_mt 27 56 ls (ab_gv (ls 1) :: st) w := E_loadi (n := 1) rfl h
theorem e_27_56 {ls : ab_L} {st : List Value} {w : ab_W} {v0 v1 : Value} (h1 : ab_recv ab_mt 56 [v0, v1] w.2 = true) (h8 : ab_w8 st = true) : ab_Run ab_mt 27 56 ls (v1 :: v0 :: st) w = ab_aft 56 27 56 ls st (ab_Cl 56 [v0, v1] w) := E_call2 rfl h1 h8
theorem e_27_59 {ls : ab_L} {st : List Value} {w : ab_W} (h : ab_isI (ls 1) = true) : ab_Run ab_mt 27 59 ls st w = ab_Run ab_mt 27 62 (ab_l1 ls 1 (.int (ab_gi (ls 1) + (-1)))) st w := E_iinc rfl h
theorem e_27_62 {ls : ab_L} {st : List Value} {w : ab_W} : ab_Run ab_mt 27 62 ls st w = ab_Run ab_mt 27 25 ls st w := E_goto rfl
theorem e_27_65 {ls : ab_L} {w : ab_W} : ab_Run ab_mt 27 65 ls [] w = some (.inl none, w) := E_ret0 rfl
theorem rv_27 {σ : ab_S} {t : Nat} : ab_recv ab_mt 27 [.ref t] σ = ab_isO 1 (σ t) := rfl
theorem e_28_0 {ls : ab_L} {st : List Value} {w : ab_W} (h : ab_isR (ls 0) = true) : ab_Run ab_mt 28 0 ls st w = ab_Run ab_mt 28 1 ls (ab_gv (ls 0) :: st) w := E_loadr (n := 1) rfl h
theorem e_28_1 {ls : ab_L} {st : List Value} {w : ab_W} : ab_Run ab_mt 28 1 ls st w = ab_Run ab_mt 28 2 ls (.int (nI 0) :: st) w := E_push (n := 1) rfl
theorem e_28_2 {ls : ab_L} {st : List Value} {w : ab_W} {a : Nat} {x : Int32} (h : ab_isF 1 6 (w.2 a) = true) : ab_Run ab_mt 28 2 ls (.int x :: .ref a :: st) w = ab_Run ab_mt 28 5 ls st (w.1, ab_up w.2 a (ab_sf 6 (.int x) (w.2 a))) := E_put rfl h rfl
theorem e_28_5 {ls : ab_L} {st : List Value} {w : ab_W} : ab_Run ab_mt 28 5 ls st w = ab_Run ab_mt 28 6 ls (.int (nI 0) :: st) w := E_push (n := 1) rfl
theorem e_28_6 {ls : ab_L} {st : List Value} {w : ab_W} {x : Int32} : ab_Run ab_mt 28 6 ls (.int x :: st) w = ab_Run ab_mt 28 7 (ab_l1 ls 1 (.int x)) st w := E_stori (n := 1) rfl
theorem e_28_7 {ls : ab_L} {st : List Value} {w : ab_W} (h : ab_isI (ls 1) = true) : ab_Run ab_mt 28 7 ls st w = ab_Run ab_mt 28 8 ls (ab_gv (ls 1) :: st) w := E_loadi (n := 1) rfl h
theorem e_28_8 {ls : ab_L} {st : List Value} {w : ab_W} (h : ab_isR (ls 0) = true) : ab_Run ab_mt 28 8 ls st w = ab_Run ab_mt 28 9 ls (ab_gv (ls 0) :: st) w := E_loadr (n := 1) rfl h
theorem e_28_9 {ls : ab_L} {st : List Value} {w : ab_W} {a : Nat} (h : ab_isF 1 0 (w.2 a) = true) : ab_Run ab_mt 28 9 ls (.ref a :: st) w = ab_Run ab_mt 28 12 ls (ab_fv 0 (w.2 a) :: st) w := E_get rfl h
theorem e_28_12 {ls : ab_L} {st : List Value} {w : ab_W} {a : Nat} (h : ab_isF 2 0 (w.2 a) = true) : ab_Run ab_mt 28 12 ls (.ref a :: st) w = ab_Run ab_mt 28 15 ls (ab_fv 0 (w.2 a) :: st) w := E_get rfl h
theorem e_28_15 {ls : ab_L} {st : List Value} {w : ab_W} {a : Nat} (h : ab_isF 3 3 (w.2 a) = true) : ab_Run ab_mt 28 15 ls (.ref a :: st) w = ab_Run ab_mt 28 18 ls (ab_fv 3 (w.2 a) :: st) w := E_get rfl h
theorem e_28_18 {ls : ab_L} {st : List Value} {w : ab_W} {x y : Int32} : ab_Run ab_mt 28 18 ls (.int y :: .int x :: st) w = if y ≤ x then ab_Run ab_mt 28 98 ls st w else ab_Run ab_mt 28 21 ls st w := E_ic_ge rfl
theorem e_28_21 {ls : ab_L} {st : List Value} {w : ab_W} (h : ab_isI (ls 1) = true) : ab_Run ab_mt 28 21 ls st w = ab_Run ab_mt 28 22 ls (ab_gv (ls 1) :: st) w := E_loadi (n := 1) rfl h
theorem e_28_22 {ls : ab_L} {st : List Value} {w : ab_W} : ab_Run ab_mt 28 22 ls st w = ab_Run ab_mt 28 24 ls (.int (nI 24) :: st) w := E_push (n := 2) rfl
theorem e_28_24 {ls : ab_L} {st : List Value} {w : ab_W} {x y : Int32} : ab_Run ab_mt 28 24 ls (.int y :: .int x :: st) w = if y ≤ x then ab_Run ab_mt 28 98 ls st w else ab_Run ab_mt 28 27 ls st w := E_ic_ge rfl
theorem e_28_27 {ls : ab_L} {st : List Value} {w : ab_W} (h : ab_isR (ls 0) = true) : ab_Run ab_mt 28 27 ls st w = ab_Run ab_mt 28 28 ls (ab_gv (ls 0) :: st) w := E_loadr (n := 1) rfl h
theorem e_28_28 {ls : ab_L} {st : List Value} {w : ab_W} {a : Nat} (h : ab_isF 1 1 (w.2 a) = true) : ab_Run ab_mt 28 28 ls (.ref a :: st) w = ab_Run ab_mt 28 31 ls (ab_fv 1 (w.2 a) :: st) w := E_get rfl h
theorem e_28_31 {ls : ab_L} {st : List Value} {w : ab_W} (h : ab_isI (ls 1) = true) : ab_Run ab_mt 28 31 ls st w = ab_Run ab_mt 28 32 ls (ab_gv (ls 1) :: st) w := E_loadi (n := 1) rfl h
theorem e_28_32 {ls : ab_L} {st : List Value} {w : ab_W} (h : ab_isR (ls 0) = true) : ab_Run ab_mt 28 32 ls st w = ab_Run ab_mt 28 33 ls (ab_gv (ls 0) :: st) w := E_loadr (n := 1) rfl h
theorem e_28_33 {ls : ab_L} {st : List Value} {w : ab_W} {a : Nat} (h : ab_isF 1 6 (w.2 a) = true) : ab_Run ab_mt 28 33 ls (.ref a :: st) w = ab_Run ab_mt 28 36 ls (ab_fv 6 (w.2 a) :: st) w := E_get rfl h
theorem e_28_36 {ls : ab_L} {st : List Value} {w : ab_W} {a : Nat} {i x : Int32} (h : ab_inW i (w.2 a) = true) : ab_Run ab_mt 28 36 ls (.int x :: .int i :: .ref a :: st) w = ab_Run ab_mt 28 37 ls st (w.1, ab_up w.2 a (ab_sI i.toNatClampNeg x (w.2 a))) := E_iast rfl h
theorem e_28_37 {ls : ab_L} {st : List Value} {w : ab_W} (h : ab_isR (ls 0) = true) : ab_Run ab_mt 28 37 ls st w = ab_Run ab_mt 28 38 ls (ab_gv (ls 0) :: st) w := E_loadr (n := 1) rfl h
theorem e_28_38 {ls : ab_L} {st : List Value} {w : ab_W} {a : Nat} (h : ab_isF 1 6 (w.2 a) = true) : ab_Run ab_mt 28 38 ls (.ref a :: st) w = ab_Run ab_mt 28 41 ls (ab_fv 6 (w.2 a) :: st) w := E_get rfl h
theorem e_28_41 {ls : ab_L} {st : List Value} {w : ab_W} (h : ab_isR (ls 0) = true) : ab_Run ab_mt 28 41 ls st w = ab_Run ab_mt 28 42 ls (ab_gv (ls 0) :: st) w := E_loadr (n := 1) rfl h
theorem e_28_42 {ls : ab_L} {st : List Value} {w : ab_W} {a : Nat} (h : ab_isF 1 0 (w.2 a) = true) : ab_Run ab_mt 28 42 ls (.ref a :: st) w = ab_Run ab_mt 28 45 ls (ab_fv 0 (w.2 a) :: st) w := E_get rfl h
theorem e_28_45 {ls : ab_L} {st : List Value} {w : ab_W} {a : Nat} (h : ab_isF 2 0 (w.2 a) = true) : ab_Run ab_mt 28 45 ls (.ref a :: st) w = ab_Run ab_mt 28 48 ls (ab_fv 0 (w.2 a) :: st) w := E_get rfl h
theorem e_28_48 {ls : ab_L} {st : List Value} {w : ab_W} (h : ab_isI (ls 1) = true) : ab_Run ab_mt 28 48 ls st w = ab_Run ab_mt 28 49 ls (ab_gv (ls 1) :: st) w := E_loadi (n := 1) rfl h
theorem e_28_49 {ls : ab_L} {st : List Value} {w : ab_W} : ab_Run ab_mt 28 49 ls st w = ab_Run ab_mt 28 50 ls (.int (nI 0) :: st) w := E_push (n := 1) rfl
theorem e_28_50 {ls : ab_L} {st : List Value} {w : ab_W} {v0 v1 v2 : Value} (h1 : ab_recv ab_mt 53 [v0, v1, v2] w.2 = true) (h8 : ab_w8 st = true) : ab_Run ab_mt 28 50 ls (v2 :: v1 :: v0 :: st) w = ab_aft 53 28 50 ls st (ab_Cl 53 [v0, v1, v2] w) := E_call3 rfl h1 h8
theorem e_28_53 {ls : ab_L} {st : List Value} {w : ab_W} {x y : Int32} : ab_Run ab_mt 28 53 ls (.int y :: .int x :: st) w = ab_Run ab_mt 28 54 ls (.int (x + y) :: st) w := E_ib (f := fun x y => x + y) rfl
theorem e_28_54 {ls : ab_L} {st : List Value} {w : ab_W} : ab_Run ab_mt 28 54 ls st w = ab_Run ab_mt 28 57 ls (.int (nI 288) :: st) w := E_push (n := 3) rfl
theorem e_28_57 {ls : ab_L} {st : List Value} {w : ab_W} {x y : Int32} (h8 : ab_w8 st = true) : ab_Run ab_mt 28 57 ls (.int y :: .int x :: st) w = ab_Run ab_mt 28 60 ls (.int (if y < x then y else x) :: st) w := E_mini rfl h8
theorem e_28_60 {ls : ab_L} {st : List Value} {w : ab_W} {x : Int32} : ab_Run ab_mt 28 60 ls (.int x :: st) w = ab_Run ab_mt 28 61 (ab_l1 ls 2 (.int x)) st w := E_stori (n := 1) rfl
theorem e_28_61 {ls : ab_L} {st : List Value} {w : ab_W} (h : ab_isR (ls 0) = true) : ab_Run ab_mt 28 61 ls st w = ab_Run ab_mt 28 62 ls (ab_gv (ls 0) :: st) w := E_loadr (n := 1) rfl h
theorem e_28_62 {ls : ab_L} {st : List Value} {w : ab_W} {a : Nat} (h : ab_isF 1 6 (w.2 a) = true) : ab_Run ab_mt 28 62 ls (.ref a :: st) w = ab_Run ab_mt 28 65 ls (ab_fv 6 (w.2 a) :: st) w := E_get rfl h
theorem e_28_65 {ls : ab_L} {st : List Value} {w : ab_W} (h : ab_isI (ls 2) = true) : ab_Run ab_mt 28 65 ls st w = ab_Run ab_mt 28 66 ls (ab_gv (ls 2) :: st) w := E_loadi (n := 1) rfl h
theorem e_28_66 {ls : ab_L} {st : List Value} {w : ab_W} {x y : Int32} : ab_Run ab_mt 28 66 ls (.int y :: .int x :: st) w = if y ≤ x then ab_Run ab_mt 28 92 ls st w else ab_Run ab_mt 28 69 ls st w := E_ic_ge rfl
theorem e_28_69 {ls : ab_L} {st : List Value} {w : ab_W} (h : ab_isR (ls 0) = true) : ab_Run ab_mt 28 69 ls st w = ab_Run ab_mt 28 70 ls (ab_gv (ls 0) :: st) w := E_loadr (n := 1) rfl h
theorem e_28_70 {ls : ab_L} {st : List Value} {w : ab_W} {a : Nat} (h : ab_isF 1 2 (w.2 a) = true) : ab_Run ab_mt 28 70 ls (.ref a :: st) w = ab_Run ab_mt 28 73 ls (ab_fv 2 (w.2 a) :: st) w := E_get rfl h
theorem e_28_73 {ls : ab_L} {st : List Value} {w : ab_W} (h : ab_isR (ls 0) = true) : ab_Run ab_mt 28 73 ls st w = ab_Run ab_mt 28 74 ls (ab_gv (ls 0) :: st) w := E_loadr (n := 1) rfl h
theorem e_28_74 {ls : ab_L} {st : List Value} {w : ab_W} {a : Nat} (h : ab_isF 1 6 (w.2 a) = true) : ab_Run ab_mt 28 74 ls (.ref a :: st) w = ab_Run ab_mt 28 77 ls (ab_fv 6 (w.2 a) :: st) w := E_get rfl h
theorem e_28_77 {ls : ab_L} {st : List Value} {w : ab_W} (h : ab_isI (ls 1) = true) : ab_Run ab_mt 28 77 ls st w = ab_Run ab_mt 28 78 ls (ab_gv (ls 1) :: st) w := E_loadi (n := 1) rfl h
theorem e_28_78 {ls : ab_L} {st : List Value} {w : ab_W} {a : Nat} {i x : Int32} (h : ab_inW i (w.2 a) = true) : ab_Run ab_mt 28 78 ls (.int x :: .int i :: .ref a :: st) w = ab_Run ab_mt 28 79 ls st (w.1, ab_up w.2 a (ab_sI i.toNatClampNeg x (w.2 a))) := E_iast rfl h
theorem e_28_79 {ls : ab_L} {st : List Value} {w : ab_W} (h : ab_isR (ls 0) = true) : ab_Run ab_mt 28 79 ls st w = ab_Run ab_mt 28 80 ls (ab_gv (ls 0) :: st) w := E_loadr (n := 1) rfl h
theorem e_28_80 {ls : ab_L} {st : List Value} {w : ab_W} {x : Nat} : ab_Run ab_mt 28 80 ls (.ref x :: st) w = ab_Run ab_mt 28 81 ls (.ref x :: .ref x :: st) w := E_dup_r rfl
theorem e_28_81 {ls : ab_L} {st : List Value} {w : ab_W} {a : Nat} (h : ab_isF 1 6 (w.2 a) = true) : ab_Run ab_mt 28 81 ls (.ref a :: st) w = ab_Run ab_mt 28 84 ls (ab_fv 6 (w.2 a) :: st) w := E_get rfl h
theorem e_28_84 {ls : ab_L} {st : List Value} {w : ab_W} : ab_Run ab_mt 28 84 ls st w = ab_Run ab_mt 28 85 ls (.int (nI 1) :: st) w := E_push (n := 1) rfl
theorem e_28_85 {ls : ab_L} {st : List Value} {w : ab_W} {x y : Int32} : ab_Run ab_mt 28 85 ls (.int y :: .int x :: st) w = ab_Run ab_mt 28 86 ls (.int (x + y) :: st) w := E_ib (f := fun x y => x + y) rfl
theorem e_28_86 {ls : ab_L} {st : List Value} {w : ab_W} {a : Nat} {x : Int32} (h : ab_isF 1 6 (w.2 a) = true) : ab_Run ab_mt 28 86 ls (.int x :: .ref a :: st) w = ab_Run ab_mt 28 89 ls st (w.1, ab_up w.2 a (ab_sf 6 (.int x) (w.2 a))) := E_put rfl h rfl
theorem e_28_89 {ls : ab_L} {st : List Value} {w : ab_W} : ab_Run ab_mt 28 89 ls st w = ab_Run ab_mt 28 61 ls st w := E_goto rfl
theorem e_28_92 {ls : ab_L} {st : List Value} {w : ab_W} (h : ab_isI (ls 1) = true) : ab_Run ab_mt 28 92 ls st w = ab_Run ab_mt 28 95 (ab_l1 ls 1 (.int (ab_gi (ls 1) + (nI 1)))) st w := E_iinc rfl h
theorem e_28_95 {ls : ab_L} {st : List Value} {w : ab_W} : ab_Run ab_mt 28 95 ls st w = ab_Run ab_mt 28 7 ls st w := E_goto rfl
theorem e_28_98 {ls : ab_L} {w : ab_W} : ab_Run ab_mt 28 98 ls [] w = some (.inl none, w) := E_ret0 rfl
theorem rv_28 {σ : ab_S} {t : Nat} : ab_recv ab_mt 28 [.ref t] σ = ab_isO 1 (σ t) := rfl
