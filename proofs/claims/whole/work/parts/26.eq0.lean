/-! the equations of runs, an instruction each: printed by wip/whole/gen_step.py -/
theorem e_0_0 {ls : ab_L} {st : List Value} {w : ab_W} (h : ab_isR (ls 0) = true) : ab_Run ab_mt 0 0 ls st w = ab_Run ab_mt 0 1 ls (ab_gv (ls 0) :: st) w := E_loadr (n := 1) rfl h
theorem e_0_1 {ls : ab_L} {st : List Value} {w : ab_W} {a : Nat} (h8 : ab_w8 st = true) : ab_Run ab_mt 0 1 ls (.ref a :: st) w = ab_Run ab_mt 0 4 ls st w := E_oini rfl h8
theorem e_0_4 {ls : ab_L} {st : List Value} {w : ab_W} (h : ab_isR (ls 0) = true) : ab_Run ab_mt 0 4 ls st w = ab_Run ab_mt 0 5 ls (ab_gv (ls 0) :: st) w := E_loadr (n := 1) rfl h
theorem e_0_5 {ls : ab_L} {st : List Value} {w : ab_W} (h : w.1.1 = true) : ab_Run ab_mt 0 5 ls st w = ab_Run ab_mt 0 8 ls (.ref w.1.2.1 :: st) (ab_mk w.1 w.2 (ab_ob 1 [.null, .null, .null, .null, .null, .null, .int 0, .long 0]) 8) := E_new (n := 3) (x := ab_ob 1 [.null, .null, .null, .null, .null, .null, .int 0, .long 0]) (sz := 8) (rest := st) rfl rfl h
theorem e_0_8 {ls : ab_L} {st : List Value} {w : ab_W} {x : Nat} : ab_Run ab_mt 0 8 ls (.ref x :: st) w = ab_Run ab_mt 0 9 ls (.ref x :: .ref x :: st) w := E_dup_r rfl
theorem e_0_9 {ls : ab_L} {st : List Value} {w : ab_W} {v0 : Value} (h1 : ab_recv ab_mt 47 [v0] w.2 = true) (h8 : ab_w8 st = true) : ab_Run ab_mt 0 9 ls (v0 :: st) w = ab_aft 47 0 9 ls st (ab_Cl 47 [v0] w) := E_call1 rfl h1 h8
theorem e_0_12 {ls : ab_L} {st : List Value} {w : ab_W} {a : Nat} {x : Nat} (h : ab_isF 0 0 (w.2 a) = true) : ab_Run ab_mt 0 12 ls (.ref x :: .ref a :: st) w = ab_Run ab_mt 0 15 ls st (w.1, ab_up w.2 a (ab_sf 0 (.ref x) (w.2 a))) := E_put rfl h rfl
theorem e_0_15 {ls : ab_L} {st : List Value} {w : ab_W} (h : ab_isR (ls 0) = true) : ab_Run ab_mt 0 15 ls st w = ab_Run ab_mt 0 16 ls (ab_gv (ls 0) :: st) w := E_loadr (n := 1) rfl h
theorem e_0_16 {ls : ab_L} {st : List Value} {w : ab_W} (h : ab_isR (ls 0) = true) : ab_Run ab_mt 0 16 ls st w = ab_Run ab_mt 0 17 ls (ab_gv (ls 0) :: st) w := E_loadr (n := 1) rfl h
theorem e_0_17 {ls : ab_L} {st : List Value} {w : ab_W} {a : Nat} (h : ab_isF 0 0 (w.2 a) = true) : ab_Run ab_mt 0 17 ls (.ref a :: st) w = ab_Run ab_mt 0 20 ls (ab_fv 0 (w.2 a) :: st) w := E_get rfl h
theorem e_0_20 {ls : ab_L} {st : List Value} {w : ab_W} {a : Nat} (h : ab_isF 1 0 (w.2 a) = true) : ab_Run ab_mt 0 20 ls (.ref a :: st) w = ab_Run ab_mt 0 23 ls (ab_fv 0 (w.2 a) :: st) w := E_get rfl h
theorem e_0_23 {ls : ab_L} {st : List Value} {w : ab_W} {a : Nat} {x : Nat} (h : ab_isF 0 1 (w.2 a) = true) : ab_Run ab_mt 0 23 ls (.ref x :: .ref a :: st) w = ab_Run ab_mt 0 26 ls st (w.1, ab_up w.2 a (ab_sf 1 (.ref x) (w.2 a))) := E_put rfl h rfl
theorem e_0_26 {ls : ab_L} {st : List Value} {w : ab_W} (h : ab_isR (ls 0) = true) : ab_Run ab_mt 0 26 ls st w = ab_Run ab_mt 0 27 ls (ab_gv (ls 0) :: st) w := E_loadr (n := 1) rfl h
theorem e_0_27 {ls : ab_L} {st : List Value} {w : ab_W} (h : w.1.1 = true) : ab_Run ab_mt 0 27 ls st w = ab_Run ab_mt 0 30 ls (.ref w.1.2.1 :: st) (ab_mk w.1 w.2 (ab_ob 4 [.int 0, .int 0, .int 0, .int 0, .int 0, .int 0, .int 0, .long 0, .int 0, .int 0, .int 0]) 11) := E_new (n := 3) (x := ab_ob 4 [.int 0, .int 0, .int 0, .int 0, .int 0, .int 0, .int 0, .long 0, .int 0, .int 0, .int 0]) (sz := 11) (rest := st) rfl rfl h
theorem e_0_30 {ls : ab_L} {st : List Value} {w : ab_W} {x : Nat} : ab_Run ab_mt 0 30 ls (.ref x :: st) w = ab_Run ab_mt 0 31 ls (.ref x :: .ref x :: st) w := E_dup_r rfl
theorem e_0_31 {ls : ab_L} {st : List Value} {w : ab_W} {v0 : Value} (h1 : ab_recv ab_mt 81 [v0] w.2 = true) (h8 : ab_w8 st = true) : ab_Run ab_mt 0 31 ls (v0 :: st) w = ab_aft 81 0 31 ls st (ab_Cl 81 [v0] w) := E_call1 rfl h1 h8
theorem e_0_34 {ls : ab_L} {st : List Value} {w : ab_W} {a : Nat} {x : Nat} (h : ab_isF 0 2 (w.2 a) = true) : ab_Run ab_mt 0 34 ls (.ref x :: .ref a :: st) w = ab_Run ab_mt 0 37 ls st (w.1, ab_up w.2 a (ab_sf 2 (.ref x) (w.2 a))) := E_put rfl h rfl
theorem e_0_37 {ls : ab_L} {st : List Value} {w : ab_W} (h : ab_isR (ls 0) = true) : ab_Run ab_mt 0 37 ls st w = ab_Run ab_mt 0 38 ls (ab_gv (ls 0) :: st) w := E_loadr (n := 1) rfl h
theorem e_0_38 {ls : ab_L} {st : List Value} {w : ab_W} (h : w.1.1 = true) : ab_Run ab_mt 0 38 ls st w = ab_Run ab_mt 0 41 ls (.ref w.1.2.1 :: st) (ab_mk w.1 w.2 (ab_ob 5 [.null, .int 0]) 2) := E_new (n := 3) (x := ab_ob 5 [.null, .int 0]) (sz := 2) (rest := st) rfl rfl h
theorem e_0_41 {ls : ab_L} {st : List Value} {w : ab_W} {x : Nat} : ab_Run ab_mt 0 41 ls (.ref x :: st) w = ab_Run ab_mt 0 42 ls (.ref x :: .ref x :: st) w := E_dup_r rfl
theorem e_0_42 {ls : ab_L} {st : List Value} {w : ab_W} {v0 : Value} (h1 : ab_recv ab_mt 94 [v0] w.2 = true) (h8 : ab_w8 st = true) : ab_Run ab_mt 0 42 ls (v0 :: st) w = ab_aft 94 0 42 ls st (ab_Cl 94 [v0] w) := E_call1 rfl h1 h8
theorem e_0_45 {ls : ab_L} {st : List Value} {w : ab_W} {a : Nat} {x : Nat} (h : ab_isF 0 3 (w.2 a) = true) : ab_Run ab_mt 0 45 ls (.ref x :: .ref a :: st) w = ab_Run ab_mt 0 48 ls st (w.1, ab_up w.2 a (ab_sf 3 (.ref x) (w.2 a))) := E_put rfl h rfl
theorem e_0_48 {ls : ab_L} {st : List Value} {w : ab_W} (h : ab_isR (ls 0) = true) : ab_Run ab_mt 0 48 ls st w = ab_Run ab_mt 0 49 ls (ab_gv (ls 0) :: st) w := E_loadr (n := 1) rfl h
theorem e_0_49 {ls : ab_L} {st : List Value} {w : ab_W} : ab_Run ab_mt 0 49 ls st w = ab_Run ab_mt 0 50 ls (.int (nI 2) :: st) w := E_push (n := 1) rfl
theorem e_0_50 {ls : ab_L} {st : List Value} {w : ab_W} {n : Int32} (h : w.1.1 = true) (hn : ¬ (n < 0 ∨ 60000 < n.toNatClampNeg)) : ab_Run ab_mt 0 50 ls (.int n :: st) w = ab_Run ab_mt 0 53 ls (.ref w.1.2.1 :: st) (ab_mk w.1 w.2 (ab_qa n.toNatClampNeg (ab_nq n.toNatClampNeg)) n.toNatClampNeg) := E_new (n := 3) (x := ab_qa n.toNatClampNeg (ab_nq n.toNatClampNeg)) (sz := n.toNatClampNeg) (rest := st) rfl (if_neg hn) h
theorem e_0_53 {ls : ab_L} {st : List Value} {w : ab_W} {a : Nat} {x : Nat} (h : ab_isF 0 4 (w.2 a) = true) : ab_Run ab_mt 0 53 ls (.ref x :: .ref a :: st) w = ab_Run ab_mt 0 56 ls st (w.1, ab_up w.2 a (ab_sf 4 (.ref x) (w.2 a))) := E_put rfl h rfl
theorem e_0_56 {ls : ab_L} {st : List Value} {w : ab_W} (h : ab_isR (ls 0) = true) : ab_Run ab_mt 0 56 ls st w = ab_Run ab_mt 0 57 ls (ab_gv (ls 0) :: st) w := E_loadr (n := 1) rfl h
theorem e_0_57 {ls : ab_L} {st : List Value} {w : ab_W} : ab_Run ab_mt 0 57 ls st w = ab_Run ab_mt 0 59 ls (.int (nI 60) :: st) w := E_push (n := 2) rfl
theorem e_0_59 {ls : ab_L} {st : List Value} {w : ab_W} {n : Int32} (h : w.1.1 = true) (hn : ¬ (n < 0 ∨ 60000 < n.toNatClampNeg)) : ab_Run ab_mt 0 59 ls (.int n :: st) w = ab_Run ab_mt 0 61 ls (.ref w.1.2.1 :: st) (ab_mk w.1 w.2 (ab_ia n.toNatClampNeg (fun _ => 0)) n.toNatClampNeg) := E_new (n := 2) (x := ab_ia n.toNatClampNeg (fun _ => 0)) (sz := n.toNatClampNeg) (rest := st) rfl (if_neg hn) h
theorem e_0_61 {ls : ab_L} {st : List Value} {w : ab_W} {a : Nat} {x : Nat} (h : ab_isF 0 6 (w.2 a) = true) : ab_Run ab_mt 0 61 ls (.ref x :: .ref a :: st) w = ab_Run ab_mt 0 64 ls st (w.1, ab_up w.2 a (ab_sf 6 (.ref x) (w.2 a))) := E_put rfl h rfl
theorem e_0_64 {ls : ab_L} {st : List Value} {w : ab_W} (h : ab_isR (ls 0) = true) : ab_Run ab_mt 0 64 ls st w = ab_Run ab_mt 0 65 ls (ab_gv (ls 0) :: st) w := E_loadr (n := 1) rfl h
theorem e_0_65 {ls : ab_L} {st : List Value} {w : ab_W} (h : w.1.1 = true) : ab_Run ab_mt 0 65 ls st w = ab_Run ab_mt 0 68 ls (.ref w.1.2.1 :: st) (ab_mk w.1 w.2 (ab_ob 6 [.null, .int 0, .int 0, .int 0, .int 0]) 5) := E_new (n := 3) (x := ab_ob 6 [.null, .int 0, .int 0, .int 0, .int 0]) (sz := 5) (rest := st) rfl rfl h
theorem e_0_68 {ls : ab_L} {st : List Value} {w : ab_W} {x : Nat} : ab_Run ab_mt 0 68 ls (.ref x :: st) w = ab_Run ab_mt 0 69 ls (.ref x :: .ref x :: st) w := E_dup_r rfl
theorem e_0_69 {ls : ab_L} {st : List Value} {w : ab_W} {v0 : Value} (h1 : ab_recv ab_mt 98 [v0] w.2 = true) (h8 : ab_w8 st = true) : ab_Run ab_mt 0 69 ls (v0 :: st) w = ab_aft 98 0 69 ls st (ab_Cl 98 [v0] w) := E_call1 rfl h1 h8
theorem e_0_72 {ls : ab_L} {st : List Value} {w : ab_W} {a : Nat} {x : Nat} (h : ab_isF 0 8 (w.2 a) = true) : ab_Run ab_mt 0 72 ls (.ref x :: .ref a :: st) w = ab_Run ab_mt 0 75 ls st (w.1, ab_up w.2 a (ab_sf 8 (.ref x) (w.2 a))) := E_put rfl h rfl
theorem e_0_75 {ls : ab_L} {st : List Value} {w : ab_W} (h : ab_isR (ls 0) = true) : ab_Run ab_mt 0 75 ls st w = ab_Run ab_mt 0 76 ls (ab_gv (ls 0) :: st) w := E_loadr (n := 1) rfl h
theorem e_0_76 {ls : ab_L} {st : List Value} {w : ab_W} (h : w.1.1 = true) : ab_Run ab_mt 0 76 ls st w = ab_Run ab_mt 0 79 ls (.ref w.1.2.1 :: st) (ab_mk w.1 w.2 (ab_ob 1 [.null, .null, .null, .null, .null, .null, .int 0, .long 0]) 8) := E_new (n := 3) (x := ab_ob 1 [.null, .null, .null, .null, .null, .null, .int 0, .long 0]) (sz := 8) (rest := st) rfl rfl h
theorem e_0_79 {ls : ab_L} {st : List Value} {w : ab_W} {x : Nat} : ab_Run ab_mt 0 79 ls (.ref x :: st) w = ab_Run ab_mt 0 80 ls (.ref x :: .ref x :: st) w := E_dup_r rfl
theorem e_0_80 {ls : ab_L} {st : List Value} {w : ab_W} {v0 : Value} (h1 : ab_recv ab_mt 47 [v0] w.2 = true) (h8 : ab_w8 st = true) : ab_Run ab_mt 0 80 ls (v0 :: st) w = ab_aft 47 0 80 ls st (ab_Cl 47 [v0] w) := E_call1 rfl h1 h8
theorem e_0_83 {ls : ab_L} {st : List Value} {w : ab_W} {a : Nat} {x : Nat} (h : ab_isF 0 9 (w.2 a) = true) : ab_Run ab_mt 0 83 ls (.ref x :: .ref a :: st) w = ab_Run ab_mt 0 86 ls st (w.1, ab_up w.2 a (ab_sf 9 (.ref x) (w.2 a))) := E_put rfl h rfl
theorem e_0_86 {ls : ab_L} {st : List Value} {w : ab_W} : ab_Run ab_mt 0 86 ls st w = ab_Run ab_mt 0 87 ls (.int (nI 0) :: st) w := E_push (n := 1) rfl
theorem e_0_87 {ls : ab_L} {st : List Value} {w : ab_W} {x : Int32} : ab_Run ab_mt 0 87 ls (.int x :: st) w = ab_Run ab_mt 0 88 (ab_l1 ls 1 (.int x)) st w := E_stori (n := 1) rfl
theorem e_0_88 {ls : ab_L} {st : List Value} {w : ab_W} (h : ab_isI (ls 1) = true) : ab_Run ab_mt 0 88 ls st w = ab_Run ab_mt 0 89 ls (ab_gv (ls 1) :: st) w := E_loadi (n := 1) rfl h
theorem e_0_89 {ls : ab_L} {st : List Value} {w : ab_W} (h : ab_isR (ls 0) = true) : ab_Run ab_mt 0 89 ls st w = ab_Run ab_mt 0 90 ls (ab_gv (ls 0) :: st) w := E_loadr (n := 1) rfl h
theorem e_0_90 {ls : ab_L} {st : List Value} {w : ab_W} {a : Nat} (h : ab_isF 0 4 (w.2 a) = true) : ab_Run ab_mt 0 90 ls (.ref a :: st) w = ab_Run ab_mt 0 93 ls (ab_fv 4 (w.2 a) :: st) w := E_get rfl h
theorem e_0_93 {ls : ab_L} {st : List Value} {w : ab_W} {a : Nat} (h : ab_isA (w.2 a) = true) : ab_Run ab_mt 0 93 ls (.ref a :: st) w = ab_Run ab_mt 0 94 ls (.int (nI (ab_ln (w.2 a))) :: st) w := E_alen rfl h
theorem e_0_94 {ls : ab_L} {st : List Value} {w : ab_W} {x y : Int32} : ab_Run ab_mt 0 94 ls (.int y :: .int x :: st) w = if y ≤ x then ab_Run ab_mt 0 116 ls st w else ab_Run ab_mt 0 97 ls st w := E_ic_ge rfl
theorem e_0_97 {ls : ab_L} {st : List Value} {w : ab_W} (h : ab_isR (ls 0) = true) : ab_Run ab_mt 0 97 ls st w = ab_Run ab_mt 0 98 ls (ab_gv (ls 0) :: st) w := E_loadr (n := 1) rfl h
theorem e_0_98 {ls : ab_L} {st : List Value} {w : ab_W} {a : Nat} (h : ab_isF 0 4 (w.2 a) = true) : ab_Run ab_mt 0 98 ls (.ref a :: st) w = ab_Run ab_mt 0 101 ls (ab_fv 4 (w.2 a) :: st) w := E_get rfl h
theorem e_0_101 {ls : ab_L} {st : List Value} {w : ab_W} (h : ab_isI (ls 1) = true) : ab_Run ab_mt 0 101 ls st w = ab_Run ab_mt 0 102 ls (ab_gv (ls 1) :: st) w := E_loadi (n := 1) rfl h
theorem e_0_102 {ls : ab_L} {st : List Value} {w : ab_W} (h : w.1.1 = true) : ab_Run ab_mt 0 102 ls st w = ab_Run ab_mt 0 105 ls (.ref w.1.2.1 :: st) (ab_mk w.1 w.2 (ab_ob 2 [.null, .null, .null]) 3) := E_new (n := 3) (x := ab_ob 2 [.null, .null, .null]) (sz := 3) (rest := st) rfl rfl h
theorem e_0_105 {ls : ab_L} {st : List Value} {w : ab_W} {x : Nat} : ab_Run ab_mt 0 105 ls (.ref x :: st) w = ab_Run ab_mt 0 106 ls (.ref x :: .ref x :: st) w := E_dup_r rfl
theorem e_0_106 {ls : ab_L} {st : List Value} {w : ab_W} {v0 : Value} (h1 : ab_recv ab_mt 71 [v0] w.2 = true) (h8 : ab_w8 st = true) : ab_Run ab_mt 0 106 ls (v0 :: st) w = ab_aft 71 0 106 ls st (ab_Cl 71 [v0] w) := E_call1 rfl h1 h8
theorem e_0_109 {ls : ab_L} {st : List Value} {w : ab_W} {a x : Nat} {i : Int32} (h : ab_inP i (w.2 a) = true) (h2 : ab_isO 2 (w.2 x) = true) : ab_Run ab_mt 0 109 ls (.ref x :: .int i :: .ref a :: st) w = ab_Run ab_mt 0 110 ls st (w.1, ab_up w.2 a (ab_sQ i.toNatClampNeg x (w.2 a))) := E_aast rfl h h2
theorem e_0_110 {ls : ab_L} {st : List Value} {w : ab_W} (h : ab_isI (ls 1) = true) : ab_Run ab_mt 0 110 ls st w = ab_Run ab_mt 0 113 (ab_l1 ls 1 (.int (ab_gi (ls 1) + (nI 1)))) st w := E_iinc rfl h
theorem e_0_113 {ls : ab_L} {st : List Value} {w : ab_W} : ab_Run ab_mt 0 113 ls st w = ab_Run ab_mt 0 88 ls st w := E_goto rfl
theorem e_0_116 {ls : ab_L} {w : ab_W} : ab_Run ab_mt 0 116 ls [] w = some (.inl none, w) := E_ret0 rfl
theorem rv_0 {σ : ab_S} {t : Nat} : ab_recv ab_mt 0 [.ref t] σ = ab_isO 0 (σ t) := rfl
theorem e_1_0 {ls : ab_L} {st : List Value} {w : ab_W} (h : ab_isR (ls 0) = true) : ab_Run ab_mt 1 0 ls st w = ab_Run ab_mt 1 1 ls (ab_gv (ls 0) :: st) w := E_loadr (n := 1) rfl h
theorem e_1_1 {ls : ab_L} {st : List Value} {w : ab_W} {v0 : Value} (h1 : ab_recv ab_mt 36 [v0] w.2 = true) (h8 : ab_w8 st = true) : ab_Run ab_mt 1 1 ls (v0 :: st) w = ab_aft 36 1 1 ls st (ab_Cl 36 [v0] w) := E_call1 rfl h1 h8
theorem e_1_4 {ls : ab_L} {st : List Value} {w : ab_W} (h : ab_isR (ls 0) = true) : ab_Run ab_mt 1 4 ls st w = ab_Run ab_mt 1 5 ls (ab_gv (ls 0) :: st) w := E_loadr (n := 1) rfl h
theorem e_1_5 {ls : ab_L} {st : List Value} {w : ab_W} {a : Nat} (h : ab_isF 0 1 (w.2 a) = true) : ab_Run ab_mt 1 5 ls (.ref a :: st) w = ab_Run ab_mt 1 8 ls (ab_fv 1 (w.2 a) :: st) w := E_get rfl h
theorem e_1_8 {ls : ab_L} {st : List Value} {w : ab_W} {a : Nat} (h : ab_isF 2 0 (w.2 a) = true) : ab_Run ab_mt 1 8 ls (.ref a :: st) w = ab_Run ab_mt 1 11 ls (ab_fv 0 (w.2 a) :: st) w := E_get rfl h
theorem e_1_11 {ls : ab_L} {st : List Value} {w : ab_W} {a : Nat} (h : ab_isF 3 3 (w.2 a) = true) : ab_Run ab_mt 1 11 ls (.ref a :: st) w = ab_Run ab_mt 1 14 ls (ab_fv 3 (w.2 a) :: st) w := E_get rfl h
theorem e_1_14 {ls : ab_L} {st : List Value} {w : ab_W} {x : Int32} : ab_Run ab_mt 1 14 ls (.int x :: st) w = ab_Run ab_mt 1 15 (ab_l1 ls 1 (.int x)) st w := E_stori (n := 1) rfl
theorem e_1_15 {ls : ab_L} {st : List Value} {w : ab_W} (h : ab_isR (ls 0) = true) : ab_Run ab_mt 1 15 ls st w = ab_Run ab_mt 1 16 ls (ab_gv (ls 0) :: st) w := E_loadr (n := 1) rfl h
theorem e_1_16 {ls : ab_L} {st : List Value} {w : ab_W} {a : Nat} (h : ab_isF 0 3 (w.2 a) = true) : ab_Run ab_mt 1 16 ls (.ref a :: st) w = ab_Run ab_mt 1 19 ls (ab_fv 3 (w.2 a) :: st) w := E_get rfl h
theorem e_1_19 {ls : ab_L} {st : List Value} {w : ab_W} (h : ab_isR (ls 0) = true) : ab_Run ab_mt 1 19 ls st w = ab_Run ab_mt 1 20 ls (ab_gv (ls 0) :: st) w := E_loadr (n := 1) rfl h
theorem e_1_20 {ls : ab_L} {st : List Value} {w : ab_W} {a : Nat} (h : ab_isF 0 1 (w.2 a) = true) : ab_Run ab_mt 1 20 ls (.ref a :: st) w = ab_Run ab_mt 1 23 ls (ab_fv 1 (w.2 a) :: st) w := E_get rfl h
theorem e_1_23 {ls : ab_L} {st : List Value} {w : ab_W} {v0 v1 : Value} (h1 : ab_recv ab_mt 95 [v0, v1] w.2 = true) (h8 : ab_w8 st = true) : ab_Run ab_mt 1 23 ls (v1 :: v0 :: st) w = ab_aft 95 1 23 ls st (ab_Cl 95 [v0, v1] w) := E_call2 rfl h1 h8
theorem e_1_26 {ls : ab_L} {st : List Value} {w : ab_W} (h : ab_isR (ls 0) = true) : ab_Run ab_mt 1 26 ls st w = ab_Run ab_mt 1 27 ls (ab_gv (ls 0) :: st) w := E_loadr (n := 1) rfl h
theorem e_1_27 {ls : ab_L} {st : List Value} {w : ab_W} {a : Nat} (h : ab_isF 0 1 (w.2 a) = true) : ab_Run ab_mt 1 27 ls (.ref a :: st) w = ab_Run ab_mt 1 30 ls (ab_fv 1 (w.2 a) :: st) w := E_get rfl h
theorem e_1_30 {ls : ab_L} {st : List Value} {w : ab_W} {v0 : Value} (h1 : ab_recv ab_mt 72 [v0] w.2 = true) (h8 : ab_w8 st = true) : ab_Run ab_mt 1 30 ls (v0 :: st) w = ab_aft 72 1 30 ls st (ab_Cl 72 [v0] w) := E_call1 rfl h1 h8
theorem e_1_33 {ls : ab_L} {st : List Value} {w : ab_W} (h : ab_isR (ls 0) = true) : ab_Run ab_mt 1 33 ls st w = ab_Run ab_mt 1 34 ls (ab_gv (ls 0) :: st) w := E_loadr (n := 1) rfl h
theorem e_1_34 {ls : ab_L} {st : List Value} {w : ab_W} {a : Nat} (h : ab_isF 0 0 (w.2 a) = true) : ab_Run ab_mt 1 34 ls (.ref a :: st) w = ab_Run ab_mt 1 37 ls (ab_fv 0 (w.2 a) :: st) w := E_get rfl h
theorem e_1_37 {ls : ab_L} {st : List Value} {w : ab_W} {v0 : Value} (h1 : ab_recv ab_mt 48 [v0] w.2 = true) (h8 : ab_w8 st = true) : ab_Run ab_mt 1 37 ls (v0 :: st) w = ab_aft 48 1 37 ls st (ab_Cl 48 [v0] w) := E_call1 rfl h1 h8
theorem e_1_40 {ls : ab_L} {st : List Value} {w : ab_W} (h : ab_isI (ls 1) = true) : ab_Run ab_mt 1 40 ls st w = ab_Run ab_mt 1 41 ls (ab_gv (ls 1) :: st) w := E_loadi (n := 1) rfl h
theorem e_1_41 {ls : ab_L} {w : ab_W} {x : Int32} : ab_Run ab_mt 1 41 ls [.int x] w = some (.inl (some (.int x)), w) := E_reti rfl
theorem rv_1 {σ : ab_S} {t : Nat} : ab_recv ab_mt 1 [.ref t] σ = ab_isO 0 (σ t) := rfl
theorem x_1_1 {ls : ab_L} {rest : List Value} {E : Nat} {w : ab_W} : ab_aft 36 1 1 ls rest (some (.inr E, w)) = some (.inr E, w) := ab_aft_x rfl rfl (by unfold ab_hand; rfl)
theorem x_1_37 {ls : ab_L} {rest : List Value} {E : Nat} {w : ab_W} : ab_aft 48 1 37 ls rest (some (.inr E, w)) = some (.inr E, w) := ab_aft_x rfl rfl (by unfold ab_hand; rfl)
theorem e_2_0 {ls : ab_L} {st : List Value} {w : ab_W} (h : ab_isI (ls 1) = true) : ab_Run ab_mt 2 0 ls st w = ab_Run ab_mt 2 1 ls (ab_gv (ls 1) :: st) w := E_loadi (n := 1) rfl h
theorem e_2_1 {ls : ab_L} {st : List Value} {w : ab_W} {x : Int32} : ab_Run ab_mt 2 1 ls (.int x :: st) w = ab_Run ab_mt 2 2 ls (.long x.toInt64 :: st) w := E_i2l rfl
theorem e_2_2 {ls : ab_L} {st : List Value} {w : ab_W} : ab_Run ab_mt 2 2 ls st w = ab_Run ab_mt 2 5 ls (.ref 1 :: st) w := E_push (n := 3) rfl
theorem e_2_5 {ls : ab_L} {st : List Value} {w : ab_W} : ab_Run ab_mt 2 5 ls st w = ab_Run ab_mt 2 6 ls (.int (nI 0) :: st) w := E_push (n := 1) rfl
theorem e_2_6 {ls : ab_L} {st : List Value} {w : ab_W} {a : Nat} {i : Int32} (h : ab_inI i (w.2 a) = true) : ab_Run ab_mt 2 6 ls (.int i :: .ref a :: st) w = ab_Run ab_mt 2 7 ls (.int (ab_aI i.toNatClampNeg (w.2 a)) :: st) w := E_iald rfl h
theorem e_2_7 {ls : ab_L} {st : List Value} {w : ab_W} {x : Int32} : ab_Run ab_mt 2 7 ls (.int x :: st) w = ab_Run ab_mt 2 8 ls (.long x.toInt64 :: st) w := E_i2l rfl
theorem e_2_8 {ls : ab_L} {st : List Value} {w : ab_W} : ab_Run ab_mt 2 8 ls st w = ab_Run ab_mt 2 11 ls (.ref 2 :: st) w := E_push (n := 3) rfl
theorem e_2_11 {ls : ab_L} {st : List Value} {w : ab_W} : ab_Run ab_mt 2 11 ls st w = ab_Run ab_mt 2 12 ls (.int (nI 0) :: st) w := E_push (n := 1) rfl
theorem e_2_12 {ls : ab_L} {st : List Value} {w : ab_W} {a : Nat} {i : Int32} (h : ab_inI i (w.2 a) = true) : ab_Run ab_mt 2 12 ls (.int i :: .ref a :: st) w = ab_Run ab_mt 2 13 ls (.int (ab_aI i.toNatClampNeg (w.2 a)) :: st) w := E_iald rfl h
theorem e_2_13 {ls : ab_L} {st : List Value} {w : ab_W} {x : Int32} : ab_Run ab_mt 2 13 ls (.int x :: st) w = ab_Run ab_mt 2 14 ls (.long x.toInt64 :: st) w := E_i2l rfl
theorem e_2_14 {ls : ab_L} {st : List Value} {w : ab_W} {v0 v1 v2 : Value} (h1 : ab_recv ab_mt 34 [v0, v1, v2] w.2 = true) (h8 : ab_w8 st = true) : ab_Run ab_mt 2 14 ls (v2 :: v1 :: v0 :: st) w = ab_aft 34 2 14 ls st (ab_Cl 34 [v0, v1, v2] w) := E_call3 rfl h1 h8
theorem e_2_17 {ls : ab_L} {st : List Value} {w : ab_W} (h : ab_isI (ls 2) = true) : ab_Run ab_mt 2 17 ls st w = ab_Run ab_mt 2 18 ls (ab_gv (ls 2) :: st) w := E_loadi (n := 1) rfl h
theorem e_2_18 {ls : ab_L} {st : List Value} {w : ab_W} {x : Int32} : ab_Run ab_mt 2 18 ls (.int x :: st) w = ab_Run ab_mt 2 19 ls (.long x.toInt64 :: st) w := E_i2l rfl
theorem e_2_19 {ls : ab_L} {st : List Value} {w : ab_W} : ab_Run ab_mt 2 19 ls st w = ab_Run ab_mt 2 22 ls (.ref 1 :: st) w := E_push (n := 3) rfl
theorem e_2_22 {ls : ab_L} {st : List Value} {w : ab_W} : ab_Run ab_mt 2 22 ls st w = ab_Run ab_mt 2 23 ls (.int (nI 1) :: st) w := E_push (n := 1) rfl
theorem e_2_23 {ls : ab_L} {st : List Value} {w : ab_W} {a : Nat} {i : Int32} (h : ab_inI i (w.2 a) = true) : ab_Run ab_mt 2 23 ls (.int i :: .ref a :: st) w = ab_Run ab_mt 2 24 ls (.int (ab_aI i.toNatClampNeg (w.2 a)) :: st) w := E_iald rfl h
theorem e_2_24 {ls : ab_L} {st : List Value} {w : ab_W} {x : Int32} : ab_Run ab_mt 2 24 ls (.int x :: st) w = ab_Run ab_mt 2 25 ls (.long x.toInt64 :: st) w := E_i2l rfl
theorem e_2_25 {ls : ab_L} {st : List Value} {w : ab_W} : ab_Run ab_mt 2 25 ls st w = ab_Run ab_mt 2 28 ls (.ref 2 :: st) w := E_push (n := 3) rfl
theorem e_2_28 {ls : ab_L} {st : List Value} {w : ab_W} : ab_Run ab_mt 2 28 ls st w = ab_Run ab_mt 2 29 ls (.int (nI 1) :: st) w := E_push (n := 1) rfl
theorem e_2_29 {ls : ab_L} {st : List Value} {w : ab_W} {a : Nat} {i : Int32} (h : ab_inI i (w.2 a) = true) : ab_Run ab_mt 2 29 ls (.int i :: .ref a :: st) w = ab_Run ab_mt 2 30 ls (.int (ab_aI i.toNatClampNeg (w.2 a)) :: st) w := E_iald rfl h
theorem e_2_30 {ls : ab_L} {st : List Value} {w : ab_W} {x : Int32} : ab_Run ab_mt 2 30 ls (.int x :: st) w = ab_Run ab_mt 2 31 ls (.long x.toInt64 :: st) w := E_i2l rfl
theorem e_2_31 {ls : ab_L} {st : List Value} {w : ab_W} {v0 v1 v2 : Value} (h1 : ab_recv ab_mt 34 [v0, v1, v2] w.2 = true) (h8 : ab_w8 st = true) : ab_Run ab_mt 2 31 ls (v2 :: v1 :: v0 :: st) w = ab_aft 34 2 31 ls st (ab_Cl 34 [v0, v1, v2] w) := E_call3 rfl h1 h8
theorem e_2_34 {ls : ab_L} {st : List Value} {w : ab_W} (h : ab_isR (ls 0) = true) : ab_Run ab_mt 2 34 ls st w = ab_Run ab_mt 2 35 ls (ab_gv (ls 0) :: st) w := E_loadr (n := 1) rfl h
theorem e_2_35 {ls : ab_L} {st : List Value} {w : ab_W} {v0 : Value} (h1 : ab_recv ab_mt 36 [v0] w.2 = true) (h8 : ab_w8 st = true) : ab_Run ab_mt 2 35 ls (v0 :: st) w = ab_aft 36 2 35 ls st (ab_Cl 36 [v0] w) := E_call1 rfl h1 h8
theorem e_2_38 {ls : ab_L} {st : List Value} {w : ab_W} (h : ab_isR (ls 0) = true) : ab_Run ab_mt 2 38 ls st w = ab_Run ab_mt 2 39 ls (ab_gv (ls 0) :: st) w := E_loadr (n := 1) rfl h
theorem e_2_39 {ls : ab_L} {st : List Value} {w : ab_W} {a : Nat} (h : ab_isF 0 1 (w.2 a) = true) : ab_Run ab_mt 2 39 ls (.ref a :: st) w = ab_Run ab_mt 2 42 ls (ab_fv 1 (w.2 a) :: st) w := E_get rfl h
theorem e_2_42 {ls : ab_L} {st : List Value} {w : ab_W} {a : Nat} (h : ab_isF 2 0 (w.2 a) = true) : ab_Run ab_mt 2 42 ls (.ref a :: st) w = ab_Run ab_mt 2 45 ls (ab_fv 0 (w.2 a) :: st) w := E_get rfl h
theorem e_2_45 {ls : ab_L} {st : List Value} {w : ab_W} : ab_Run ab_mt 2 45 ls st w = ab_Run ab_mt 2 46 ls (.int (nI 1) :: st) w := E_push (n := 1) rfl
theorem e_2_46 {ls : ab_L} {st : List Value} {w : ab_W} : ab_Run ab_mt 2 46 ls st w = ab_Run ab_mt 2 48 ls (.int (nI 24) :: st) w := E_push (n := 2) rfl
theorem e_2_48 {ls : ab_L} {st : List Value} {w : ab_W} {v0 v1 v2 : Value} (h1 : ab_recv ab_mt 35 [v0, v1, v2] w.2 = true) (h8 : ab_w8 st = true) : ab_Run ab_mt 2 48 ls (v2 :: v1 :: v0 :: st) w = ab_aft 35 2 48 ls st (ab_Cl 35 [v0, v1, v2] w) := E_call3 rfl h1 h8
theorem e_2_51 {ls : ab_L} {st : List Value} {w : ab_W} (h : ab_isR (ls 0) = true) : ab_Run ab_mt 2 51 ls st w = ab_Run ab_mt 2 52 ls (ab_gv (ls 0) :: st) w := E_loadr (n := 1) rfl h
theorem e_2_52 {ls : ab_L} {st : List Value} {w : ab_W} {a : Nat} (h : ab_isF 0 3 (w.2 a) = true) : ab_Run ab_mt 2 52 ls (.ref a :: st) w = ab_Run ab_mt 2 55 ls (ab_fv 3 (w.2 a) :: st) w := E_get rfl h
theorem e_2_55 {ls : ab_L} {st : List Value} {w : ab_W} (h : ab_isR (ls 0) = true) : ab_Run ab_mt 2 55 ls st w = ab_Run ab_mt 2 56 ls (ab_gv (ls 0) :: st) w := E_loadr (n := 1) rfl h
theorem e_2_56 {ls : ab_L} {st : List Value} {w : ab_W} {a : Nat} (h : ab_isF 0 1 (w.2 a) = true) : ab_Run ab_mt 2 56 ls (.ref a :: st) w = ab_Run ab_mt 2 59 ls (ab_fv 1 (w.2 a) :: st) w := E_get rfl h
theorem e_2_59 {ls : ab_L} {st : List Value} {w : ab_W} {v0 v1 : Value} (h1 : ab_recv ab_mt 95 [v0, v1] w.2 = true) (h8 : ab_w8 st = true) : ab_Run ab_mt 2 59 ls (v1 :: v0 :: st) w = ab_aft 95 2 59 ls st (ab_Cl 95 [v0, v1] w) := E_call2 rfl h1 h8
theorem e_2_62 {ls : ab_L} {st : List Value} {w : ab_W} (h : ab_isR (ls 0) = true) : ab_Run ab_mt 2 62 ls st w = ab_Run ab_mt 2 63 ls (ab_gv (ls 0) :: st) w := E_loadr (n := 1) rfl h
theorem e_2_63 {ls : ab_L} {st : List Value} {w : ab_W} {a : Nat} (h : ab_isF 0 1 (w.2 a) = true) : ab_Run ab_mt 2 63 ls (.ref a :: st) w = ab_Run ab_mt 2 66 ls (ab_fv 1 (w.2 a) :: st) w := E_get rfl h
theorem e_2_66 {ls : ab_L} {st : List Value} {w : ab_W} {a : Nat} (h : ab_isF 2 0 (w.2 a) = true) : ab_Run ab_mt 2 66 ls (.ref a :: st) w = ab_Run ab_mt 2 69 ls (ab_fv 0 (w.2 a) :: st) w := E_get rfl h
theorem e_2_69 {ls : ab_L} {st : List Value} {w : ab_W} (h : ab_isI (ls 1) = true) : ab_Run ab_mt 2 69 ls st w = ab_Run ab_mt 2 70 ls (ab_gv (ls 1) :: st) w := E_loadi (n := 1) rfl h
theorem e_2_70 {ls : ab_L} {st : List Value} {w : ab_W} (h : ab_isI (ls 2) = true) : ab_Run ab_mt 2 70 ls st w = ab_Run ab_mt 2 71 ls (ab_gv (ls 2) :: st) w := E_loadi (n := 1) rfl h
theorem e_2_71 {ls : ab_L} {st : List Value} {w : ab_W} {v0 v1 v2 : Value} (h1 : ab_recv ab_mt 39 [v0, v1, v2] w.2 = true) (h8 : ab_w8 st = true) : ab_Run ab_mt 2 71 ls (v2 :: v1 :: v0 :: st) w = ab_aft 39 2 71 ls st (ab_Cl 39 [v0, v1, v2] w) := E_call3 rfl h1 h8
theorem e_2_74 {ls : ab_L} {st : List Value} {w : ab_W} (h : ab_isR (ls 0) = true) : ab_Run ab_mt 2 74 ls st w = ab_Run ab_mt 2 75 ls (ab_gv (ls 0) :: st) w := E_loadr (n := 1) rfl h
theorem e_2_75 {ls : ab_L} {st : List Value} {w : ab_W} {a : Nat} (h : ab_isF 0 0 (w.2 a) = true) : ab_Run ab_mt 2 75 ls (.ref a :: st) w = ab_Run ab_mt 2 78 ls (ab_fv 0 (w.2 a) :: st) w := E_get rfl h
theorem e_2_78 {ls : ab_L} {st : List Value} {w : ab_W} {v0 : Value} (h1 : ab_recv ab_mt 48 [v0] w.2 = true) (h8 : ab_w8 st = true) : ab_Run ab_mt 2 78 ls (v0 :: st) w = ab_aft 48 2 78 ls st (ab_Cl 48 [v0] w) := E_call1 rfl h1 h8
theorem e_2_81 {ls : ab_L} {st : List Value} {w : ab_W} (h : ab_isR (ls 0) = true) : ab_Run ab_mt 2 81 ls st w = ab_Run ab_mt 2 82 ls (ab_gv (ls 0) :: st) w := E_loadr (n := 1) rfl h
theorem e_2_82 {ls : ab_L} {st : List Value} {w : ab_W} {a : Nat} (h : ab_isF 0 1 (w.2 a) = true) : ab_Run ab_mt 2 82 ls (.ref a :: st) w = ab_Run ab_mt 2 85 ls (ab_fv 1 (w.2 a) :: st) w := E_get rfl h
theorem e_2_85 {ls : ab_L} {st : List Value} {w : ab_W} {a : Nat} (h : ab_isF 2 0 (w.2 a) = true) : ab_Run ab_mt 2 85 ls (.ref a :: st) w = ab_Run ab_mt 2 88 ls (ab_fv 0 (w.2 a) :: st) w := E_get rfl h
theorem e_2_88 {ls : ab_L} {st : List Value} {w : ab_W} {a : Nat} (h : ab_isF 3 3 (w.2 a) = true) : ab_Run ab_mt 2 88 ls (.ref a :: st) w = ab_Run ab_mt 2 91 ls (ab_fv 3 (w.2 a) :: st) w := E_get rfl h
theorem e_2_91 {ls : ab_L} {st : List Value} {w : ab_W} : ab_Run ab_mt 2 91 ls st w = ab_Run ab_mt 2 92 ls (.int (nI 1) :: st) w := E_push (n := 1) rfl
theorem e_2_92 {ls : ab_L} {st : List Value} {w : ab_W} {x y : Int32} : ab_Run ab_mt 2 92 ls (.int y :: .int x :: st) w = ab_Run ab_mt 2 93 ls (.int (x - y) :: st) w := E_ib (f := fun x y => x - y) rfl
theorem e_2_93 {ls : ab_L} {w : ab_W} {x : Int32} : ab_Run ab_mt 2 93 ls [.int x] w = some (.inl (some (.int x)), w) := E_reti rfl
theorem rv_2 {σ : ab_S} {t : Nat} {x0 : Int32} {x1 : Int32} : ab_recv ab_mt 2 [.ref t, .int x0, .int x1] σ = ab_isO 0 (σ t) := rfl
theorem x_2_14 {ls : ab_L} {rest : List Value} {E : Nat} {w : ab_W} : ab_aft 34 2 14 ls rest (some (.inr E, w)) = some (.inr E, w) := ab_aft_x rfl rfl (by unfold ab_hand; rfl)
theorem x_2_31 {ls : ab_L} {rest : List Value} {E : Nat} {w : ab_W} : ab_aft 34 2 31 ls rest (some (.inr E, w)) = some (.inr E, w) := ab_aft_x rfl rfl (by unfold ab_hand; rfl)
theorem x_2_35 {ls : ab_L} {rest : List Value} {E : Nat} {w : ab_W} : ab_aft 36 2 35 ls rest (some (.inr E, w)) = some (.inr E, w) := ab_aft_x rfl rfl (by unfold ab_hand; rfl)
theorem x_2_48 {ls : ab_L} {rest : List Value} {E : Nat} {w : ab_W} : ab_aft 35 2 48 ls rest (some (.inr E, w)) = some (.inr E, w) := ab_aft_x rfl rfl (by unfold ab_hand; rfl)
theorem x_2_78 {ls : ab_L} {rest : List Value} {E : Nat} {w : ab_W} : ab_aft 48 2 78 ls rest (some (.inr E, w)) = some (.inr E, w) := ab_aft_x rfl rfl (by unfold ab_hand; rfl)
theorem e_3_0 {ls : ab_L} {st : List Value} {w : ab_W} (h : ab_isI (ls 1) = true) : ab_Run ab_mt 3 0 ls st w = ab_Run ab_mt 3 1 ls (ab_gv (ls 1) :: st) w := E_loadi (n := 1) rfl h
theorem e_3_1 {ls : ab_L} {st : List Value} {w : ab_W} (h : ab_isR (ls 0) = true) : ab_Run ab_mt 3 1 ls st w = ab_Run ab_mt 3 2 ls (ab_gv (ls 0) :: st) w := E_loadr (n := 1) rfl h
theorem e_3_2 {ls : ab_L} {st : List Value} {w : ab_W} {a : Nat} (h : ab_isF 0 1 (w.2 a) = true) : ab_Run ab_mt 3 2 ls (.ref a :: st) w = ab_Run ab_mt 3 5 ls (ab_fv 1 (w.2 a) :: st) w := E_get rfl h
theorem e_3_5 {ls : ab_L} {st : List Value} {w : ab_W} {a : Nat} (h : ab_isF 2 0 (w.2 a) = true) : ab_Run ab_mt 3 5 ls (.ref a :: st) w = ab_Run ab_mt 3 8 ls (ab_fv 0 (w.2 a) :: st) w := E_get rfl h
theorem e_3_8 {ls : ab_L} {st : List Value} {w : ab_W} {a : Nat} (h : ab_isF 3 3 (w.2 a) = true) : ab_Run ab_mt 3 8 ls (.ref a :: st) w = ab_Run ab_mt 3 11 ls (ab_fv 3 (w.2 a) :: st) w := E_get rfl h
theorem e_3_11 {ls : ab_L} {st : List Value} {w : ab_W} {v0 v1 : Value} (h1 : ab_recv ab_mt 33 [v0, v1] w.2 = true) (h8 : ab_w8 st = true) : ab_Run ab_mt 3 11 ls (v1 :: v0 :: st) w = ab_aft 33 3 11 ls st (ab_Cl 33 [v0, v1] w) := E_call2 rfl h1 h8
theorem e_3_14 {ls : ab_L} {st : List Value} {w : ab_W} (h : ab_isI (ls 2) = true) : ab_Run ab_mt 3 14 ls st w = ab_Run ab_mt 3 15 ls (ab_gv (ls 2) :: st) w := E_loadi (n := 1) rfl h
theorem e_3_15 {ls : ab_L} {st : List Value} {w : ab_W} : ab_Run ab_mt 3 15 ls st w = ab_Run ab_mt 3 16 ls (.int (nI 5) :: st) w := E_push (n := 1) rfl
theorem e_3_16 {ls : ab_L} {st : List Value} {w : ab_W} {v0 v1 : Value} (h1 : ab_recv ab_mt 33 [v0, v1] w.2 = true) (h8 : ab_w8 st = true) : ab_Run ab_mt 3 16 ls (v1 :: v0 :: st) w = ab_aft 33 3 16 ls st (ab_Cl 33 [v0, v1] w) := E_call2 rfl h1 h8
theorem e_3_19 {ls : ab_L} {st : List Value} {w : ab_W} (h : ab_isI (ls 3) = true) : ab_Run ab_mt 3 19 ls st w = ab_Run ab_mt 3 20 ls (ab_gv (ls 3) :: st) w := E_loadi (n := 1) rfl h
theorem e_3_20 {ls : ab_L} {st : List Value} {w : ab_W} {x : Int32} : ab_Run ab_mt 3 20 ls (.int x :: st) w = if x = 0 then ab_Run ab_mt 3 23 ls st w else ab_Run ab_mt 3 28 ls st w := E_if_ne rfl
theorem e_3_23 {ls : ab_L} {st : List Value} {w : ab_W} (h : ab_isI (ls 2) = true) : ab_Run ab_mt 3 23 ls st w = ab_Run ab_mt 3 24 ls (ab_gv (ls 2) :: st) w := E_loadi (n := 1) rfl h
theorem e_3_24 {ls : ab_L} {st : List Value} {w : ab_W} : ab_Run ab_mt 3 24 ls st w = ab_Run ab_mt 3 25 ls (.int (nI 2) :: st) w := E_push (n := 1) rfl
theorem e_3_25 {ls : ab_L} {st : List Value} {w : ab_W} {x y : Int32} : ab_Run ab_mt 3 25 ls (.int y :: .int x :: st) w = if y ≤ x then ab_Run ab_mt 3 45 ls st w else ab_Run ab_mt 3 28 ls st w := E_ic_ge rfl
theorem e_3_28 {ls : ab_L} {st : List Value} {w : ab_W} (h : ab_isI (ls 3) = true) : ab_Run ab_mt 3 28 ls st w = ab_Run ab_mt 3 29 ls (ab_gv (ls 3) :: st) w := E_loadi (n := 1) rfl h
theorem e_3_29 {ls : ab_L} {st : List Value} {w : ab_W} {x : Int32} : ab_Run ab_mt 3 29 ls (.int x :: st) w = ab_Run ab_mt 3 30 ls (.long x.toInt64 :: st) w := E_i2l rfl
theorem e_3_30 {ls : ab_L} {st : List Value} {w : ab_W} : ab_Run ab_mt 3 30 ls st w = ab_Run ab_mt 3 33 ls (.ref 1 :: st) w := E_push (n := 3) rfl
theorem e_3_33 {ls : ab_L} {st : List Value} {w : ab_W} (h : ab_isI (ls 2) = true) : ab_Run ab_mt 3 33 ls st w = ab_Run ab_mt 3 34 ls (ab_gv (ls 2) :: st) w := E_loadi (n := 1) rfl h
theorem e_3_34 {ls : ab_L} {st : List Value} {w : ab_W} {a : Nat} {i : Int32} (h : ab_inI i (w.2 a) = true) : ab_Run ab_mt 3 34 ls (.int i :: .ref a :: st) w = ab_Run ab_mt 3 35 ls (.int (ab_aI i.toNatClampNeg (w.2 a)) :: st) w := E_iald rfl h
theorem e_3_35 {ls : ab_L} {st : List Value} {w : ab_W} {x : Int32} : ab_Run ab_mt 3 35 ls (.int x :: st) w = ab_Run ab_mt 3 36 ls (.long x.toInt64 :: st) w := E_i2l rfl
theorem e_3_36 {ls : ab_L} {st : List Value} {w : ab_W} : ab_Run ab_mt 3 36 ls st w = ab_Run ab_mt 3 39 ls (.ref 2 :: st) w := E_push (n := 3) rfl
theorem e_3_39 {ls : ab_L} {st : List Value} {w : ab_W} (h : ab_isI (ls 2) = true) : ab_Run ab_mt 3 39 ls st w = ab_Run ab_mt 3 40 ls (ab_gv (ls 2) :: st) w := E_loadi (n := 1) rfl h
theorem e_3_40 {ls : ab_L} {st : List Value} {w : ab_W} {a : Nat} {i : Int32} (h : ab_inI i (w.2 a) = true) : ab_Run ab_mt 3 40 ls (.int i :: .ref a :: st) w = ab_Run ab_mt 3 41 ls (.int (ab_aI i.toNatClampNeg (w.2 a)) :: st) w := E_iald rfl h
theorem e_3_41 {ls : ab_L} {st : List Value} {w : ab_W} {x : Int32} : ab_Run ab_mt 3 41 ls (.int x :: st) w = ab_Run ab_mt 3 42 ls (.long x.toInt64 :: st) w := E_i2l rfl
theorem e_3_42 {ls : ab_L} {st : List Value} {w : ab_W} {v0 v1 v2 : Value} (h1 : ab_recv ab_mt 34 [v0, v1, v2] w.2 = true) (h8 : ab_w8 st = true) : ab_Run ab_mt 3 42 ls (v2 :: v1 :: v0 :: st) w = ab_aft 34 3 42 ls st (ab_Cl 34 [v0, v1, v2] w) := E_call3 rfl h1 h8
theorem e_3_45 {ls : ab_L} {st : List Value} {w : ab_W} (h : ab_isR (ls 0) = true) : ab_Run ab_mt 3 45 ls st w = ab_Run ab_mt 3 46 ls (ab_gv (ls 0) :: st) w := E_loadr (n := 1) rfl h
theorem e_3_46 {ls : ab_L} {st : List Value} {w : ab_W} {v0 : Value} (h1 : ab_recv ab_mt 36 [v0] w.2 = true) (h8 : ab_w8 st = true) : ab_Run ab_mt 3 46 ls (v0 :: st) w = ab_aft 36 3 46 ls st (ab_Cl 36 [v0] w) := E_call1 rfl h1 h8
theorem e_3_49 {ls : ab_L} {st : List Value} {w : ab_W} (h : ab_isR (ls 0) = true) : ab_Run ab_mt 3 49 ls st w = ab_Run ab_mt 3 50 ls (ab_gv (ls 0) :: st) w := E_loadr (n := 1) rfl h
theorem e_3_50 {ls : ab_L} {st : List Value} {w : ab_W} {a : Nat} (h : ab_isF 0 1 (w.2 a) = true) : ab_Run ab_mt 3 50 ls (.ref a :: st) w = ab_Run ab_mt 3 53 ls (ab_fv 1 (w.2 a) :: st) w := E_get rfl h
theorem e_3_53 {ls : ab_L} {st : List Value} {w : ab_W} {a : Nat} (h : ab_isF 2 0 (w.2 a) = true) : ab_Run ab_mt 3 53 ls (.ref a :: st) w = ab_Run ab_mt 3 56 ls (ab_fv 0 (w.2 a) :: st) w := E_get rfl h
theorem e_3_56 {ls : ab_L} {st : List Value} {w : ab_W} (h : ab_isI (ls 1) = true) : ab_Run ab_mt 3 56 ls st w = ab_Run ab_mt 3 57 ls (ab_gv (ls 1) :: st) w := E_loadi (n := 1) rfl h
theorem e_3_57 {ls : ab_L} {st : List Value} {w : ab_W} (h : ab_isI (ls 2) = true) : ab_Run ab_mt 3 57 ls st w = ab_Run ab_mt 3 58 ls (ab_gv (ls 2) :: st) w := E_loadi (n := 1) rfl h
theorem e_3_58 {ls : ab_L} {st : List Value} {w : ab_W} {v0 v1 v2 : Value} (h1 : ab_recv ab_mt 75 [v0, v1, v2] w.2 = true) (h8 : ab_w8 st = true) : ab_Run ab_mt 3 58 ls (v2 :: v1 :: v0 :: st) w = ab_aft 75 3 58 ls st (ab_Cl 75 [v0, v1, v2] w) := E_call3 rfl h1 h8
theorem e_3_61 {ls : ab_L} {st : List Value} {w : ab_W} {x : Int32} : ab_Run ab_mt 3 61 ls (.int x :: st) w = ab_Run ab_mt 3 63 (ab_l1 ls 4 (.int x)) st w := E_stori (n := 2) rfl
theorem e_3_63 {ls : ab_L} {st : List Value} {w : ab_W} (h : ab_isR (ls 0) = true) : ab_Run ab_mt 3 63 ls st w = ab_Run ab_mt 3 64 ls (ab_gv (ls 0) :: st) w := E_loadr (n := 1) rfl h
theorem e_3_64 {ls : ab_L} {st : List Value} {w : ab_W} {a : Nat} (h : ab_isF 0 3 (w.2 a) = true) : ab_Run ab_mt 3 64 ls (.ref a :: st) w = ab_Run ab_mt 3 67 ls (ab_fv 3 (w.2 a) :: st) w := E_get rfl h
theorem e_3_67 {ls : ab_L} {st : List Value} {w : ab_W} (h : ab_isR (ls 0) = true) : ab_Run ab_mt 3 67 ls st w = ab_Run ab_mt 3 68 ls (ab_gv (ls 0) :: st) w := E_loadr (n := 1) rfl h
theorem e_3_68 {ls : ab_L} {st : List Value} {w : ab_W} {a : Nat} (h : ab_isF 0 1 (w.2 a) = true) : ab_Run ab_mt 3 68 ls (.ref a :: st) w = ab_Run ab_mt 3 71 ls (ab_fv 1 (w.2 a) :: st) w := E_get rfl h
theorem e_3_71 {ls : ab_L} {st : List Value} {w : ab_W} {v0 v1 : Value} (h1 : ab_recv ab_mt 95 [v0, v1] w.2 = true) (h8 : ab_w8 st = true) : ab_Run ab_mt 3 71 ls (v1 :: v0 :: st) w = ab_aft 95 3 71 ls st (ab_Cl 95 [v0, v1] w) := E_call2 rfl h1 h8
theorem e_3_74 {ls : ab_L} {st : List Value} {w : ab_W} (h : ab_isR (ls 0) = true) : ab_Run ab_mt 3 74 ls st w = ab_Run ab_mt 3 75 ls (ab_gv (ls 0) :: st) w := E_loadr (n := 1) rfl h
theorem e_3_75 {ls : ab_L} {st : List Value} {w : ab_W} {a : Nat} (h : ab_isF 0 1 (w.2 a) = true) : ab_Run ab_mt 3 75 ls (.ref a :: st) w = ab_Run ab_mt 3 78 ls (ab_fv 1 (w.2 a) :: st) w := E_get rfl h
theorem e_3_78 {ls : ab_L} {st : List Value} {w : ab_W} {a : Nat} (h : ab_isF 2 0 (w.2 a) = true) : ab_Run ab_mt 3 78 ls (.ref a :: st) w = ab_Run ab_mt 3 81 ls (ab_fv 0 (w.2 a) :: st) w := E_get rfl h
theorem e_3_81 {ls : ab_L} {st : List Value} {w : ab_W} (h : ab_isI (ls 1) = true) : ab_Run ab_mt 3 81 ls st w = ab_Run ab_mt 3 82 ls (ab_gv (ls 1) :: st) w := E_loadi (n := 1) rfl h
theorem e_3_82 {ls : ab_L} {st : List Value} {w : ab_W} (h : ab_isI (ls 2) = true) : ab_Run ab_mt 3 82 ls st w = ab_Run ab_mt 3 83 ls (ab_gv (ls 2) :: st) w := E_loadi (n := 1) rfl h
theorem e_3_83 {ls : ab_L} {st : List Value} {w : ab_W} (h : ab_isI (ls 3) = true) : ab_Run ab_mt 3 83 ls st w = ab_Run ab_mt 3 84 ls (ab_gv (ls 3) :: st) w := E_loadi (n := 1) rfl h
theorem e_3_84 {ls : ab_L} {st : List Value} {w : ab_W} {v0 v1 v2 v3 : Value} (h1 : ab_recv ab_mt 76 [v0, v1, v2, v3] w.2 = true) (h8 : ab_w8 st = true) : ab_Run ab_mt 3 84 ls (v3 :: v2 :: v1 :: v0 :: st) w = ab_aft 76 3 84 ls st (ab_Cl 76 [v0, v1, v2, v3] w) := E_call4 rfl h1 h8
theorem e_3_87 {ls : ab_L} {st : List Value} {w : ab_W} (h : ab_isR (ls 0) = true) : ab_Run ab_mt 3 87 ls st w = ab_Run ab_mt 3 88 ls (ab_gv (ls 0) :: st) w := E_loadr (n := 1) rfl h
theorem e_3_88 {ls : ab_L} {st : List Value} {w : ab_W} (h : ab_isI (ls 1) = true) : ab_Run ab_mt 3 88 ls st w = ab_Run ab_mt 3 89 ls (ab_gv (ls 1) :: st) w := E_loadi (n := 1) rfl h
theorem e_3_89 {ls : ab_L} {st : List Value} {w : ab_W} {v0 v1 : Value} (h1 : ab_recv ab_mt 38 [v0, v1] w.2 = true) (h8 : ab_w8 st = true) : ab_Run ab_mt 3 89 ls (v1 :: v0 :: st) w = ab_aft 38 3 89 ls st (ab_Cl 38 [v0, v1] w) := E_call2 rfl h1 h8
theorem e_3_92 {ls : ab_L} {st : List Value} {w : ab_W} (h : ab_isR (ls 0) = true) : ab_Run ab_mt 3 92 ls st w = ab_Run ab_mt 3 93 ls (ab_gv (ls 0) :: st) w := E_loadr (n := 1) rfl h
theorem e_3_93 {ls : ab_L} {st : List Value} {w : ab_W} {a : Nat} (h : ab_isF 0 0 (w.2 a) = true) : ab_Run ab_mt 3 93 ls (.ref a :: st) w = ab_Run ab_mt 3 96 ls (ab_fv 0 (w.2 a) :: st) w := E_get rfl h
theorem e_3_96 {ls : ab_L} {st : List Value} {w : ab_W} {v0 : Value} (h1 : ab_recv ab_mt 48 [v0] w.2 = true) (h8 : ab_w8 st = true) : ab_Run ab_mt 3 96 ls (v0 :: st) w = ab_aft 48 3 96 ls st (ab_Cl 48 [v0] w) := E_call1 rfl h1 h8
theorem e_3_99 {ls : ab_L} {st : List Value} {w : ab_W} (h : ab_isI (ls 4) = true) : ab_Run ab_mt 3 99 ls st w = ab_Run ab_mt 3 101 ls (ab_gv (ls 4) :: st) w := E_loadi (n := 2) rfl h
theorem e_3_101 {ls : ab_L} {w : ab_W} {x : Int32} : ab_Run ab_mt 3 101 ls [.int x] w = some (.inl (some (.int x)), w) := E_reti rfl
theorem rv_3 {σ : ab_S} {t : Nat} {x0 : Int32} {x1 : Int32} {x2 : Int32} : ab_recv ab_mt 3 [.ref t, .int x0, .int x1, .int x2] σ = ab_isO 0 (σ t) := rfl
theorem x_3_11 {ls : ab_L} {rest : List Value} {E : Nat} {w : ab_W} : ab_aft 33 3 11 ls rest (some (.inr E, w)) = some (.inr E, w) := ab_aft_x rfl rfl (by unfold ab_hand; rfl)
theorem x_3_16 {ls : ab_L} {rest : List Value} {E : Nat} {w : ab_W} : ab_aft 33 3 16 ls rest (some (.inr E, w)) = some (.inr E, w) := ab_aft_x rfl rfl (by unfold ab_hand; rfl)
theorem x_3_42 {ls : ab_L} {rest : List Value} {E : Nat} {w : ab_W} : ab_aft 34 3 42 ls rest (some (.inr E, w)) = some (.inr E, w) := ab_aft_x rfl rfl (by unfold ab_hand; rfl)
theorem x_3_46 {ls : ab_L} {rest : List Value} {E : Nat} {w : ab_W} : ab_aft 36 3 46 ls rest (some (.inr E, w)) = some (.inr E, w) := ab_aft_x rfl rfl (by unfold ab_hand; rfl)
theorem x_3_96 {ls : ab_L} {rest : List Value} {E : Nat} {w : ab_W} : ab_aft 48 3 96 ls rest (some (.inr E, w)) = some (.inr E, w) := ab_aft_x rfl rfl (by unfold ab_hand; rfl)
theorem e_4_0 {ls : ab_L} {st : List Value} {w : ab_W} (h : ab_isI (ls 1) = true) : ab_Run ab_mt 4 0 ls st w = ab_Run ab_mt 4 1 ls (ab_gv (ls 1) :: st) w := E_loadi (n := 1) rfl h
theorem e_4_1 {ls : ab_L} {st : List Value} {w : ab_W} (h : ab_isR (ls 0) = true) : ab_Run ab_mt 4 1 ls st w = ab_Run ab_mt 4 2 ls (ab_gv (ls 0) :: st) w := E_loadr (n := 1) rfl h
theorem e_4_2 {ls : ab_L} {st : List Value} {w : ab_W} {a : Nat} (h : ab_isF 0 1 (w.2 a) = true) : ab_Run ab_mt 4 2 ls (.ref a :: st) w = ab_Run ab_mt 4 5 ls (ab_fv 1 (w.2 a) :: st) w := E_get rfl h
theorem e_4_5 {ls : ab_L} {st : List Value} {w : ab_W} {a : Nat} (h : ab_isF 2 0 (w.2 a) = true) : ab_Run ab_mt 4 5 ls (.ref a :: st) w = ab_Run ab_mt 4 8 ls (ab_fv 0 (w.2 a) :: st) w := E_get rfl h
theorem e_4_8 {ls : ab_L} {st : List Value} {w : ab_W} {a : Nat} (h : ab_isF 3 3 (w.2 a) = true) : ab_Run ab_mt 4 8 ls (.ref a :: st) w = ab_Run ab_mt 4 11 ls (ab_fv 3 (w.2 a) :: st) w := E_get rfl h
theorem e_4_11 {ls : ab_L} {st : List Value} {w : ab_W} {v0 v1 : Value} (h1 : ab_recv ab_mt 33 [v0, v1] w.2 = true) (h8 : ab_w8 st = true) : ab_Run ab_mt 4 11 ls (v1 :: v0 :: st) w = ab_aft 33 4 11 ls st (ab_Cl 33 [v0, v1] w) := E_call2 rfl h1 h8
theorem e_4_14 {ls : ab_L} {st : List Value} {w : ab_W} (h : ab_isR (ls 0) = true) : ab_Run ab_mt 4 14 ls st w = ab_Run ab_mt 4 15 ls (ab_gv (ls 0) :: st) w := E_loadr (n := 1) rfl h
theorem e_4_15 {ls : ab_L} {st : List Value} {w : ab_W} {v0 : Value} (h1 : ab_recv ab_mt 36 [v0] w.2 = true) (h8 : ab_w8 st = true) : ab_Run ab_mt 4 15 ls (v0 :: st) w = ab_aft 36 4 15 ls st (ab_Cl 36 [v0] w) := E_call1 rfl h1 h8
theorem e_4_18 {ls : ab_L} {st : List Value} {w : ab_W} (h : ab_isR (ls 0) = true) : ab_Run ab_mt 4 18 ls st w = ab_Run ab_mt 4 19 ls (ab_gv (ls 0) :: st) w := E_loadr (n := 1) rfl h
theorem e_4_19 {ls : ab_L} {st : List Value} {w : ab_W} {a : Nat} (h : ab_isF 0 3 (w.2 a) = true) : ab_Run ab_mt 4 19 ls (.ref a :: st) w = ab_Run ab_mt 4 22 ls (ab_fv 3 (w.2 a) :: st) w := E_get rfl h
theorem e_4_22 {ls : ab_L} {st : List Value} {w : ab_W} (h : ab_isR (ls 0) = true) : ab_Run ab_mt 4 22 ls st w = ab_Run ab_mt 4 23 ls (ab_gv (ls 0) :: st) w := E_loadr (n := 1) rfl h
theorem e_4_23 {ls : ab_L} {st : List Value} {w : ab_W} {a : Nat} (h : ab_isF 0 1 (w.2 a) = true) : ab_Run ab_mt 4 23 ls (.ref a :: st) w = ab_Run ab_mt 4 26 ls (ab_fv 1 (w.2 a) :: st) w := E_get rfl h
theorem e_4_26 {ls : ab_L} {st : List Value} {w : ab_W} {v0 v1 : Value} (h1 : ab_recv ab_mt 95 [v0, v1] w.2 = true) (h8 : ab_w8 st = true) : ab_Run ab_mt 4 26 ls (v1 :: v0 :: st) w = ab_aft 95 4 26 ls st (ab_Cl 95 [v0, v1] w) := E_call2 rfl h1 h8
theorem e_4_29 {ls : ab_L} {st : List Value} {w : ab_W} (h : ab_isR (ls 0) = true) : ab_Run ab_mt 4 29 ls st w = ab_Run ab_mt 4 30 ls (ab_gv (ls 0) :: st) w := E_loadr (n := 1) rfl h
theorem e_4_30 {ls : ab_L} {st : List Value} {w : ab_W} {a : Nat} (h : ab_isF 0 1 (w.2 a) = true) : ab_Run ab_mt 4 30 ls (.ref a :: st) w = ab_Run ab_mt 4 33 ls (ab_fv 1 (w.2 a) :: st) w := E_get rfl h
theorem e_4_33 {ls : ab_L} {st : List Value} {w : ab_W} {a : Nat} (h : ab_isF 2 0 (w.2 a) = true) : ab_Run ab_mt 4 33 ls (.ref a :: st) w = ab_Run ab_mt 4 36 ls (ab_fv 0 (w.2 a) :: st) w := E_get rfl h
theorem e_4_36 {ls : ab_L} {st : List Value} {w : ab_W} (h : ab_isI (ls 1) = true) : ab_Run ab_mt 4 36 ls st w = ab_Run ab_mt 4 37 ls (ab_gv (ls 1) :: st) w := E_loadi (n := 1) rfl h
theorem e_4_37 {ls : ab_L} {st : List Value} {w : ab_W} {v0 v1 : Value} (h1 : ab_recv ab_mt 78 [v0, v1] w.2 = true) (h8 : ab_w8 st = true) : ab_Run ab_mt 4 37 ls (v1 :: v0 :: st) w = ab_aft 78 4 37 ls st (ab_Cl 78 [v0, v1] w) := E_call2 rfl h1 h8
theorem e_4_40 {ls : ab_L} {st : List Value} {w : ab_W} (h : ab_isR (ls 0) = true) : ab_Run ab_mt 4 40 ls st w = ab_Run ab_mt 4 41 ls (ab_gv (ls 0) :: st) w := E_loadr (n := 1) rfl h
theorem e_4_41 {ls : ab_L} {st : List Value} {w : ab_W} {a : Nat} (h : ab_isF 0 0 (w.2 a) = true) : ab_Run ab_mt 4 41 ls (.ref a :: st) w = ab_Run ab_mt 4 44 ls (ab_fv 0 (w.2 a) :: st) w := E_get rfl h
theorem e_4_44 {ls : ab_L} {st : List Value} {w : ab_W} {v0 : Value} (h1 : ab_recv ab_mt 48 [v0] w.2 = true) (h8 : ab_w8 st = true) : ab_Run ab_mt 4 44 ls (v0 :: st) w = ab_aft 48 4 44 ls st (ab_Cl 48 [v0] w) := E_call1 rfl h1 h8
theorem e_4_47 {ls : ab_L} {st : List Value} {w : ab_W} (h : ab_isR (ls 0) = true) : ab_Run ab_mt 4 47 ls st w = ab_Run ab_mt 4 48 ls (ab_gv (ls 0) :: st) w := E_loadr (n := 1) rfl h
theorem e_4_48 {ls : ab_L} {st : List Value} {w : ab_W} {a : Nat} (h : ab_isF 0 1 (w.2 a) = true) : ab_Run ab_mt 4 48 ls (.ref a :: st) w = ab_Run ab_mt 4 51 ls (ab_fv 1 (w.2 a) :: st) w := E_get rfl h
theorem e_4_51 {ls : ab_L} {st : List Value} {w : ab_W} {a : Nat} (h : ab_isF 2 0 (w.2 a) = true) : ab_Run ab_mt 4 51 ls (.ref a :: st) w = ab_Run ab_mt 4 54 ls (ab_fv 0 (w.2 a) :: st) w := E_get rfl h
theorem e_4_54 {ls : ab_L} {st : List Value} {w : ab_W} {a : Nat} (h : ab_isF 3 3 (w.2 a) = true) : ab_Run ab_mt 4 54 ls (.ref a :: st) w = ab_Run ab_mt 4 57 ls (ab_fv 3 (w.2 a) :: st) w := E_get rfl h
theorem e_4_57 {ls : ab_L} {w : ab_W} {x : Int32} : ab_Run ab_mt 4 57 ls [.int x] w = some (.inl (some (.int x)), w) := E_reti rfl
theorem rv_4 {σ : ab_S} {t : Nat} {x0 : Int32} : ab_recv ab_mt 4 [.ref t, .int x0] σ = ab_isO 0 (σ t) := rfl
theorem x_4_11 {ls : ab_L} {rest : List Value} {E : Nat} {w : ab_W} : ab_aft 33 4 11 ls rest (some (.inr E, w)) = some (.inr E, w) := ab_aft_x rfl rfl (by unfold ab_hand; rfl)
theorem x_4_15 {ls : ab_L} {rest : List Value} {E : Nat} {w : ab_W} : ab_aft 36 4 15 ls rest (some (.inr E, w)) = some (.inr E, w) := ab_aft_x rfl rfl (by unfold ab_hand; rfl)
theorem x_4_44 {ls : ab_L} {rest : List Value} {E : Nat} {w : ab_W} : ab_aft 48 4 44 ls rest (some (.inr E, w)) = some (.inr E, w) := ab_aft_x rfl rfl (by unfold ab_hand; rfl)
theorem e_5_0 {ls : ab_L} {st : List Value} {w : ab_W} (h : ab_isI (ls 1) = true) : ab_Run ab_mt 5 0 ls st w = ab_Run ab_mt 5 1 ls (ab_gv (ls 1) :: st) w := E_loadi (n := 1) rfl h
theorem e_5_1 {ls : ab_L} {st : List Value} {w : ab_W} {x : Int32} : ab_Run ab_mt 5 1 ls (.int x :: st) w = ab_Run ab_mt 5 2 ls (.long x.toInt64 :: st) w := E_i2l rfl
theorem e_5_2 {ls : ab_L} {st : List Value} {w : ab_W} : ab_Run ab_mt 5 2 ls st w = ab_Run ab_mt 5 3 ls (.long (lN 0) :: st) w := E_push (n := 1) rfl
theorem e_5_3 {ls : ab_L} {st : List Value} {w : ab_W} : ab_Run ab_mt 5 3 ls st w = ab_Run ab_mt 5 6 ls (.long (lN 287) :: st) w := E_push (n := 3) rfl
theorem e_5_6 {ls : ab_L} {st : List Value} {w : ab_W} {v0 v1 v2 : Value} (h1 : ab_recv ab_mt 34 [v0, v1, v2] w.2 = true) (h8 : ab_w8 st = true) : ab_Run ab_mt 5 6 ls (v2 :: v1 :: v0 :: st) w = ab_aft 34 5 6 ls st (ab_Cl 34 [v0, v1, v2] w) := E_call3 rfl h1 h8
theorem e_5_9 {ls : ab_L} {st : List Value} {w : ab_W} (h : ab_isI (ls 2) = true) : ab_Run ab_mt 5 9 ls st w = ab_Run ab_mt 5 10 ls (ab_gv (ls 2) :: st) w := E_loadi (n := 1) rfl h
theorem e_5_10 {ls : ab_L} {st : List Value} {w : ab_W} {x : Int32} : ab_Run ab_mt 5 10 ls (.int x :: st) w = ab_Run ab_mt 5 11 ls (.long x.toInt64 :: st) w := E_i2l rfl
theorem e_5_11 {ls : ab_L} {st : List Value} {w : ab_W} : ab_Run ab_mt 5 11 ls st w = ab_Run ab_mt 5 14 ls (.long (lN 200) :: st) w := E_push (n := 3) rfl
theorem e_5_14 {ls : ab_L} {st : List Value} {w : ab_W} : ab_Run ab_mt 5 14 ls st w = ab_Run ab_mt 5 17 ls (.long (lN 4000) :: st) w := E_push (n := 3) rfl
theorem e_5_17 {ls : ab_L} {st : List Value} {w : ab_W} {v0 v1 v2 : Value} (h1 : ab_recv ab_mt 34 [v0, v1, v2] w.2 = true) (h8 : ab_w8 st = true) : ab_Run ab_mt 5 17 ls (v2 :: v1 :: v0 :: st) w = ab_aft 34 5 17 ls st (ab_Cl 34 [v0, v1, v2] w) := E_call3 rfl h1 h8
theorem e_5_20 {ls : ab_L} {st : List Value} {w : ab_W} (h : ab_isR (ls 0) = true) : ab_Run ab_mt 5 20 ls st w = ab_Run ab_mt 5 21 ls (ab_gv (ls 0) :: st) w := E_loadr (n := 1) rfl h
theorem e_5_21 {ls : ab_L} {st : List Value} {w : ab_W} {v0 : Value} (h1 : ab_recv ab_mt 36 [v0] w.2 = true) (h8 : ab_w8 st = true) : ab_Run ab_mt 5 21 ls (v0 :: st) w = ab_aft 36 5 21 ls st (ab_Cl 36 [v0] w) := E_call1 rfl h1 h8
theorem e_5_24 {ls : ab_L} {st : List Value} {w : ab_W} (h : ab_isR (ls 0) = true) : ab_Run ab_mt 5 24 ls st w = ab_Run ab_mt 5 25 ls (ab_gv (ls 0) :: st) w := E_loadr (n := 1) rfl h
theorem e_5_25 {ls : ab_L} {st : List Value} {w : ab_W} {a : Nat} (h : ab_isF 0 1 (w.2 a) = true) : ab_Run ab_mt 5 25 ls (.ref a :: st) w = ab_Run ab_mt 5 28 ls (ab_fv 1 (w.2 a) :: st) w := E_get rfl h
theorem e_5_28 {ls : ab_L} {st : List Value} {w : ab_W} {a : Nat} (h : ab_isF 2 1 (w.2 a) = true) : ab_Run ab_mt 5 28 ls (.ref a :: st) w = ab_Run ab_mt 5 31 ls (ab_fv 1 (w.2 a) :: st) w := E_get rfl h
theorem e_5_31 {ls : ab_L} {st : List Value} {w : ab_W} (h : ab_isR (ls 0) = true) : ab_Run ab_mt 5 31 ls st w = ab_Run ab_mt 5 32 ls (ab_gv (ls 0) :: st) w := E_loadr (n := 1) rfl h
theorem e_5_32 {ls : ab_L} {st : List Value} {w : ab_W} {a : Nat} (h : ab_isF 0 1 (w.2 a) = true) : ab_Run ab_mt 5 32 ls (.ref a :: st) w = ab_Run ab_mt 5 35 ls (ab_fv 1 (w.2 a) :: st) w := E_get rfl h
theorem e_5_35 {ls : ab_L} {st : List Value} {w : ab_W} {a : Nat} (h : ab_isF 2 1 (w.2 a) = true) : ab_Run ab_mt 5 35 ls (.ref a :: st) w = ab_Run ab_mt 5 38 ls (ab_fv 1 (w.2 a) :: st) w := E_get rfl h
theorem e_5_38 {ls : ab_L} {st : List Value} {w : ab_W} (h : ab_isI (ls 1) = true) : ab_Run ab_mt 5 38 ls st w = ab_Run ab_mt 5 39 ls (ab_gv (ls 1) :: st) w := E_loadi (n := 1) rfl h
theorem e_5_39 {ls : ab_L} {st : List Value} {w : ab_W} {v0 v1 : Value} (h1 : ab_recv ab_mt 40 [v0, v1] w.2 = true) (h8 : ab_w8 st = true) : ab_Run ab_mt 5 39 ls (v1 :: v0 :: st) w = ab_aft 40 5 39 ls st (ab_Cl 40 [v0, v1] w) := E_call2 rfl h1 h8
theorem e_5_42 {ls : ab_L} {st : List Value} {w : ab_W} (h : ab_isI (ls 1) = true) : ab_Run ab_mt 5 42 ls st w = ab_Run ab_mt 5 43 ls (ab_gv (ls 1) :: st) w := E_loadi (n := 1) rfl h
theorem e_5_43 {ls : ab_L} {st : List Value} {w : ab_W} {v0 v1 v2 : Value} (h1 : ab_recv ab_mt 41 [v0, v1, v2] w.2 = true) (h8 : ab_w8 st = true) : ab_Run ab_mt 5 43 ls (v2 :: v1 :: v0 :: st) w = ab_aft 41 5 43 ls st (ab_Cl 41 [v0, v1, v2] w) := E_call3 rfl h1 h8
theorem e_5_46 {ls : ab_L} {st : List Value} {w : ab_W} {x : Int32} : ab_Run ab_mt 5 46 ls (.int x :: st) w = if x = 0 then ab_Run ab_mt 5 49 ls st w else ab_Run ab_mt 5 62 ls st w := E_if_ne rfl
theorem e_5_49 {ls : ab_L} {st : List Value} {w : ab_W} (h : ab_isR (ls 0) = true) : ab_Run ab_mt 5 49 ls st w = ab_Run ab_mt 5 50 ls (ab_gv (ls 0) :: st) w := E_loadr (n := 1) rfl h
theorem e_5_50 {ls : ab_L} {st : List Value} {w : ab_W} {a : Nat} (h : ab_isF 0 1 (w.2 a) = true) : ab_Run ab_mt 5 50 ls (.ref a :: st) w = ab_Run ab_mt 5 53 ls (ab_fv 1 (w.2 a) :: st) w := E_get rfl h
theorem e_5_53 {ls : ab_L} {st : List Value} {w : ab_W} {a : Nat} (h : ab_isF 2 1 (w.2 a) = true) : ab_Run ab_mt 5 53 ls (.ref a :: st) w = ab_Run ab_mt 5 56 ls (ab_fv 1 (w.2 a) :: st) w := E_get rfl h
theorem e_5_56 {ls : ab_L} {st : List Value} {w : ab_W} : ab_Run ab_mt 5 56 ls st w = ab_Run ab_mt 5 57 ls (.int (nI 1) :: st) w := E_push (n := 1) rfl
theorem e_5_57 {ls : ab_L} {st : List Value} {w : ab_W} : ab_Run ab_mt 5 57 ls st w = ab_Run ab_mt 5 59 ls (.int (nI 10) :: st) w := E_push (n := 2) rfl
theorem e_5_59 {ls : ab_L} {st : List Value} {w : ab_W} {v0 v1 v2 : Value} (h1 : ab_recv ab_mt 35 [v0, v1, v2] w.2 = true) (h8 : ab_w8 st = true) : ab_Run ab_mt 5 59 ls (v2 :: v1 :: v0 :: st) w = ab_aft 35 5 59 ls st (ab_Cl 35 [v0, v1, v2] w) := E_call3 rfl h1 h8
theorem e_5_62 {ls : ab_L} {st : List Value} {w : ab_W} (h : ab_isR (ls 0) = true) : ab_Run ab_mt 5 62 ls st w = ab_Run ab_mt 5 63 ls (ab_gv (ls 0) :: st) w := E_loadr (n := 1) rfl h
theorem e_5_63 {ls : ab_L} {st : List Value} {w : ab_W} {a : Nat} (h : ab_isF 0 3 (w.2 a) = true) : ab_Run ab_mt 5 63 ls (.ref a :: st) w = ab_Run ab_mt 5 66 ls (ab_fv 3 (w.2 a) :: st) w := E_get rfl h
theorem e_5_66 {ls : ab_L} {st : List Value} {w : ab_W} (h : ab_isR (ls 0) = true) : ab_Run ab_mt 5 66 ls st w = ab_Run ab_mt 5 67 ls (ab_gv (ls 0) :: st) w := E_loadr (n := 1) rfl h
theorem e_5_67 {ls : ab_L} {st : List Value} {w : ab_W} {a : Nat} (h : ab_isF 0 1 (w.2 a) = true) : ab_Run ab_mt 5 67 ls (.ref a :: st) w = ab_Run ab_mt 5 70 ls (ab_fv 1 (w.2 a) :: st) w := E_get rfl h
theorem e_5_70 {ls : ab_L} {st : List Value} {w : ab_W} {v0 v1 : Value} (h1 : ab_recv ab_mt 95 [v0, v1] w.2 = true) (h8 : ab_w8 st = true) : ab_Run ab_mt 5 70 ls (v1 :: v0 :: st) w = ab_aft 95 5 70 ls st (ab_Cl 95 [v0, v1] w) := E_call2 rfl h1 h8
theorem e_5_73 {ls : ab_L} {st : List Value} {w : ab_W} (h : ab_isR (ls 0) = true) : ab_Run ab_mt 5 73 ls st w = ab_Run ab_mt 5 74 ls (ab_gv (ls 0) :: st) w := E_loadr (n := 1) rfl h
theorem e_5_74 {ls : ab_L} {st : List Value} {w : ab_W} {a : Nat} (h : ab_isF 0 1 (w.2 a) = true) : ab_Run ab_mt 5 74 ls (.ref a :: st) w = ab_Run ab_mt 5 77 ls (ab_fv 1 (w.2 a) :: st) w := E_get rfl h
theorem e_5_77 {ls : ab_L} {st : List Value} {w : ab_W} {a : Nat} (h : ab_isF 2 1 (w.2 a) = true) : ab_Run ab_mt 5 77 ls (.ref a :: st) w = ab_Run ab_mt 5 80 ls (ab_fv 1 (w.2 a) :: st) w := E_get rfl h
theorem e_5_80 {ls : ab_L} {st : List Value} {w : ab_W} (h : ab_isI (ls 1) = true) : ab_Run ab_mt 5 80 ls st w = ab_Run ab_mt 5 81 ls (ab_gv (ls 1) :: st) w := E_loadi (n := 1) rfl h
theorem e_5_81 {ls : ab_L} {st : List Value} {w : ab_W} (h : ab_isI (ls 2) = true) : ab_Run ab_mt 5 81 ls st w = ab_Run ab_mt 5 82 ls (ab_gv (ls 2) :: st) w := E_loadi (n := 1) rfl h
theorem e_5_82 {ls : ab_L} {st : List Value} {w : ab_W} (h : ab_isI (ls 3) = true) : ab_Run ab_mt 5 82 ls st w = ab_Run ab_mt 5 83 ls (ab_gv (ls 3) :: st) w := E_loadi (n := 1) rfl h
theorem e_5_83 {ls : ab_L} {st : List Value} {w : ab_W} {v0 v1 v2 v3 : Value} (h1 : ab_recv ab_mt 42 [v0, v1, v2, v3] w.2 = true) (h8 : ab_w8 st = true) : ab_Run ab_mt 5 83 ls (v3 :: v2 :: v1 :: v0 :: st) w = ab_aft 42 5 83 ls st (ab_Cl 42 [v0, v1, v2, v3] w) := E_call4 rfl h1 h8
theorem e_5_86 {ls : ab_L} {st : List Value} {w : ab_W} (h : ab_isR (ls 0) = true) : ab_Run ab_mt 5 86 ls st w = ab_Run ab_mt 5 87 ls (ab_gv (ls 0) :: st) w := E_loadr (n := 1) rfl h
theorem e_5_87 {ls : ab_L} {st : List Value} {w : ab_W} {a : Nat} (h : ab_isF 0 0 (w.2 a) = true) : ab_Run ab_mt 5 87 ls (.ref a :: st) w = ab_Run ab_mt 5 90 ls (ab_fv 0 (w.2 a) :: st) w := E_get rfl h
theorem e_5_90 {ls : ab_L} {st : List Value} {w : ab_W} {v0 : Value} (h1 : ab_recv ab_mt 48 [v0] w.2 = true) (h8 : ab_w8 st = true) : ab_Run ab_mt 5 90 ls (v0 :: st) w = ab_aft 48 5 90 ls st (ab_Cl 48 [v0] w) := E_call1 rfl h1 h8
theorem e_5_93 {ls : ab_L} {st : List Value} {w : ab_W} (h : ab_isR (ls 0) = true) : ab_Run ab_mt 5 93 ls st w = ab_Run ab_mt 5 94 ls (ab_gv (ls 0) :: st) w := E_loadr (n := 1) rfl h
theorem e_5_94 {ls : ab_L} {st : List Value} {w : ab_W} {a : Nat} (h : ab_isF 0 1 (w.2 a) = true) : ab_Run ab_mt 5 94 ls (.ref a :: st) w = ab_Run ab_mt 5 97 ls (ab_fv 1 (w.2 a) :: st) w := E_get rfl h
theorem e_5_97 {ls : ab_L} {st : List Value} {w : ab_W} {a : Nat} (h : ab_isF 2 1 (w.2 a) = true) : ab_Run ab_mt 5 97 ls (.ref a :: st) w = ab_Run ab_mt 5 100 ls (ab_fv 1 (w.2 a) :: st) w := E_get rfl h
theorem e_5_100 {ls : ab_L} {st : List Value} {w : ab_W} {a : Nat} (h : ab_isF 3 3 (w.2 a) = true) : ab_Run ab_mt 5 100 ls (.ref a :: st) w = ab_Run ab_mt 5 103 ls (ab_fv 3 (w.2 a) :: st) w := E_get rfl h
theorem e_5_103 {ls : ab_L} {w : ab_W} {x : Int32} : ab_Run ab_mt 5 103 ls [.int x] w = some (.inl (some (.int x)), w) := E_reti rfl
theorem rv_5 {σ : ab_S} {t : Nat} {x0 : Int32} {x1 : Int32} {x2 : Int32} : ab_recv ab_mt 5 [.ref t, .int x0, .int x1, .int x2] σ = ab_isO 0 (σ t) := rfl
theorem x_5_6 {ls : ab_L} {rest : List Value} {E : Nat} {w : ab_W} : ab_aft 34 5 6 ls rest (some (.inr E, w)) = some (.inr E, w) := ab_aft_x rfl rfl (by unfold ab_hand; rfl)
theorem x_5_17 {ls : ab_L} {rest : List Value} {E : Nat} {w : ab_W} : ab_aft 34 5 17 ls rest (some (.inr E, w)) = some (.inr E, w) := ab_aft_x rfl rfl (by unfold ab_hand; rfl)
theorem x_5_21 {ls : ab_L} {rest : List Value} {E : Nat} {w : ab_W} : ab_aft 36 5 21 ls rest (some (.inr E, w)) = some (.inr E, w) := ab_aft_x rfl rfl (by unfold ab_hand; rfl)
theorem x_5_59 {ls : ab_L} {rest : List Value} {E : Nat} {w : ab_W} : ab_aft 35 5 59 ls rest (some (.inr E, w)) = some (.inr E, w) := ab_aft_x rfl rfl (by unfold ab_hand; rfl)
theorem x_5_90 {ls : ab_L} {rest : List Value} {E : Nat} {w : ab_W} : ab_aft 48 5 90 ls rest (some (.inr E, w)) = some (.inr E, w) := ab_aft_x rfl rfl (by unfold ab_hand; rfl)
theorem e_6_0 {ls : ab_L} {st : List Value} {w : ab_W} (h : ab_isI (ls 1) = true) : ab_Run ab_mt 6 0 ls st w = ab_Run ab_mt 6 1 ls (ab_gv (ls 1) :: st) w := E_loadi (n := 1) rfl h
theorem e_6_1 {ls : ab_L} {st : List Value} {w : ab_W} (h : ab_isR (ls 0) = true) : ab_Run ab_mt 6 1 ls st w = ab_Run ab_mt 6 2 ls (ab_gv (ls 0) :: st) w := E_loadr (n := 1) rfl h
theorem e_6_2 {ls : ab_L} {st : List Value} {w : ab_W} {a : Nat} (h : ab_isF 0 1 (w.2 a) = true) : ab_Run ab_mt 6 2 ls (.ref a :: st) w = ab_Run ab_mt 6 5 ls (ab_fv 1 (w.2 a) :: st) w := E_get rfl h
theorem e_6_5 {ls : ab_L} {st : List Value} {w : ab_W} {a : Nat} (h : ab_isF 2 1 (w.2 a) = true) : ab_Run ab_mt 6 5 ls (.ref a :: st) w = ab_Run ab_mt 6 8 ls (ab_fv 1 (w.2 a) :: st) w := E_get rfl h
theorem e_6_8 {ls : ab_L} {st : List Value} {w : ab_W} {a : Nat} (h : ab_isF 3 3 (w.2 a) = true) : ab_Run ab_mt 6 8 ls (.ref a :: st) w = ab_Run ab_mt 6 11 ls (ab_fv 3 (w.2 a) :: st) w := E_get rfl h
theorem e_6_11 {ls : ab_L} {st : List Value} {w : ab_W} {v0 v1 : Value} (h1 : ab_recv ab_mt 33 [v0, v1] w.2 = true) (h8 : ab_w8 st = true) : ab_Run ab_mt 6 11 ls (v1 :: v0 :: st) w = ab_aft 33 6 11 ls st (ab_Cl 33 [v0, v1] w) := E_call2 rfl h1 h8
theorem e_6_14 {ls : ab_L} {st : List Value} {w : ab_W} (h : ab_isR (ls 0) = true) : ab_Run ab_mt 6 14 ls st w = ab_Run ab_mt 6 15 ls (ab_gv (ls 0) :: st) w := E_loadr (n := 1) rfl h
theorem e_6_15 {ls : ab_L} {st : List Value} {w : ab_W} {v0 : Value} (h1 : ab_recv ab_mt 36 [v0] w.2 = true) (h8 : ab_w8 st = true) : ab_Run ab_mt 6 15 ls (v0 :: st) w = ab_aft 36 6 15 ls st (ab_Cl 36 [v0] w) := E_call1 rfl h1 h8
theorem e_6_18 {ls : ab_L} {st : List Value} {w : ab_W} (h : ab_isR (ls 0) = true) : ab_Run ab_mt 6 18 ls st w = ab_Run ab_mt 6 19 ls (ab_gv (ls 0) :: st) w := E_loadr (n := 1) rfl h
theorem e_6_19 {ls : ab_L} {st : List Value} {w : ab_W} {a : Nat} (h : ab_isF 0 3 (w.2 a) = true) : ab_Run ab_mt 6 19 ls (.ref a :: st) w = ab_Run ab_mt 6 22 ls (ab_fv 3 (w.2 a) :: st) w := E_get rfl h
theorem e_6_22 {ls : ab_L} {st : List Value} {w : ab_W} (h : ab_isR (ls 0) = true) : ab_Run ab_mt 6 22 ls st w = ab_Run ab_mt 6 23 ls (ab_gv (ls 0) :: st) w := E_loadr (n := 1) rfl h
theorem e_6_23 {ls : ab_L} {st : List Value} {w : ab_W} {a : Nat} (h : ab_isF 0 1 (w.2 a) = true) : ab_Run ab_mt 6 23 ls (.ref a :: st) w = ab_Run ab_mt 6 26 ls (ab_fv 1 (w.2 a) :: st) w := E_get rfl h
theorem e_6_26 {ls : ab_L} {st : List Value} {w : ab_W} {v0 v1 : Value} (h1 : ab_recv ab_mt 95 [v0, v1] w.2 = true) (h8 : ab_w8 st = true) : ab_Run ab_mt 6 26 ls (v1 :: v0 :: st) w = ab_aft 95 6 26 ls st (ab_Cl 95 [v0, v1] w) := E_call2 rfl h1 h8
theorem e_6_29 {ls : ab_L} {st : List Value} {w : ab_W} (h : ab_isR (ls 0) = true) : ab_Run ab_mt 6 29 ls st w = ab_Run ab_mt 6 30 ls (ab_gv (ls 0) :: st) w := E_loadr (n := 1) rfl h
theorem e_6_30 {ls : ab_L} {st : List Value} {w : ab_W} {a : Nat} (h : ab_isF 0 1 (w.2 a) = true) : ab_Run ab_mt 6 30 ls (.ref a :: st) w = ab_Run ab_mt 6 33 ls (ab_fv 1 (w.2 a) :: st) w := E_get rfl h
theorem e_6_33 {ls : ab_L} {st : List Value} {w : ab_W} {a : Nat} (h : ab_isF 2 1 (w.2 a) = true) : ab_Run ab_mt 6 33 ls (.ref a :: st) w = ab_Run ab_mt 6 36 ls (ab_fv 1 (w.2 a) :: st) w := E_get rfl h
theorem e_6_36 {ls : ab_L} {st : List Value} {w : ab_W} (h : ab_isI (ls 1) = true) : ab_Run ab_mt 6 36 ls st w = ab_Run ab_mt 6 37 ls (ab_gv (ls 1) :: st) w := E_loadi (n := 1) rfl h
theorem e_6_37 {ls : ab_L} {st : List Value} {w : ab_W} {v0 v1 : Value} (h1 : ab_recv ab_mt 78 [v0, v1] w.2 = true) (h8 : ab_w8 st = true) : ab_Run ab_mt 6 37 ls (v1 :: v0 :: st) w = ab_aft 78 6 37 ls st (ab_Cl 78 [v0, v1] w) := E_call2 rfl h1 h8
theorem e_6_40 {ls : ab_L} {st : List Value} {w : ab_W} (h : ab_isR (ls 0) = true) : ab_Run ab_mt 6 40 ls st w = ab_Run ab_mt 6 41 ls (ab_gv (ls 0) :: st) w := E_loadr (n := 1) rfl h
theorem e_6_41 {ls : ab_L} {st : List Value} {w : ab_W} {a : Nat} (h : ab_isF 0 0 (w.2 a) = true) : ab_Run ab_mt 6 41 ls (.ref a :: st) w = ab_Run ab_mt 6 44 ls (ab_fv 0 (w.2 a) :: st) w := E_get rfl h
theorem e_6_44 {ls : ab_L} {st : List Value} {w : ab_W} {v0 : Value} (h1 : ab_recv ab_mt 48 [v0] w.2 = true) (h8 : ab_w8 st = true) : ab_Run ab_mt 6 44 ls (v0 :: st) w = ab_aft 48 6 44 ls st (ab_Cl 48 [v0] w) := E_call1 rfl h1 h8
theorem e_6_47 {ls : ab_L} {st : List Value} {w : ab_W} (h : ab_isR (ls 0) = true) : ab_Run ab_mt 6 47 ls st w = ab_Run ab_mt 6 48 ls (ab_gv (ls 0) :: st) w := E_loadr (n := 1) rfl h
theorem e_6_48 {ls : ab_L} {st : List Value} {w : ab_W} {a : Nat} (h : ab_isF 0 1 (w.2 a) = true) : ab_Run ab_mt 6 48 ls (.ref a :: st) w = ab_Run ab_mt 6 51 ls (ab_fv 1 (w.2 a) :: st) w := E_get rfl h
theorem e_6_51 {ls : ab_L} {st : List Value} {w : ab_W} {a : Nat} (h : ab_isF 2 1 (w.2 a) = true) : ab_Run ab_mt 6 51 ls (.ref a :: st) w = ab_Run ab_mt 6 54 ls (ab_fv 1 (w.2 a) :: st) w := E_get rfl h
theorem e_6_54 {ls : ab_L} {st : List Value} {w : ab_W} {a : Nat} (h : ab_isF 3 3 (w.2 a) = true) : ab_Run ab_mt 6 54 ls (.ref a :: st) w = ab_Run ab_mt 6 57 ls (ab_fv 3 (w.2 a) :: st) w := E_get rfl h
theorem e_6_57 {ls : ab_L} {w : ab_W} {x : Int32} : ab_Run ab_mt 6 57 ls [.int x] w = some (.inl (some (.int x)), w) := E_reti rfl
theorem rv_6 {σ : ab_S} {t : Nat} {x0 : Int32} : ab_recv ab_mt 6 [.ref t, .int x0] σ = ab_isO 0 (σ t) := rfl
theorem x_6_11 {ls : ab_L} {rest : List Value} {E : Nat} {w : ab_W} : ab_aft 33 6 11 ls rest (some (.inr E, w)) = some (.inr E, w) := ab_aft_x rfl rfl (by unfold ab_hand; rfl)
theorem x_6_15 {ls : ab_L} {rest : List Value} {E : Nat} {w : ab_W} : ab_aft 36 6 15 ls rest (some (.inr E, w)) = some (.inr E, w) := ab_aft_x rfl rfl (by unfold ab_hand; rfl)
theorem x_6_44 {ls : ab_L} {rest : List Value} {E : Nat} {w : ab_W} : ab_aft 48 6 44 ls rest (some (.inr E, w)) = some (.inr E, w) := ab_aft_x rfl rfl (by unfold ab_hand; rfl)
theorem e_7_0 {ls : ab_L} {st : List Value} {w : ab_W} (h : ab_isI (ls 1) = true) : ab_Run ab_mt 7 0 ls st w = ab_Run ab_mt 7 1 ls (ab_gv (ls 1) :: st) w := E_loadi (n := 1) rfl h
theorem e_7_1 {ls : ab_L} {st : List Value} {w : ab_W} (h : ab_isR (ls 0) = true) : ab_Run ab_mt 7 1 ls st w = ab_Run ab_mt 7 2 ls (ab_gv (ls 0) :: st) w := E_loadr (n := 1) rfl h
theorem e_7_2 {ls : ab_L} {st : List Value} {w : ab_W} {a : Nat} (h : ab_isF 0 0 (w.2 a) = true) : ab_Run ab_mt 7 2 ls (.ref a :: st) w = ab_Run ab_mt 7 5 ls (ab_fv 0 (w.2 a) :: st) w := E_get rfl h
theorem e_7_5 {ls : ab_L} {st : List Value} {w : ab_W} {a : Nat} (h : ab_isF 1 6 (w.2 a) = true) : ab_Run ab_mt 7 5 ls (.ref a :: st) w = ab_Run ab_mt 7 8 ls (ab_fv 6 (w.2 a) :: st) w := E_get rfl h
theorem e_7_8 {ls : ab_L} {st : List Value} {w : ab_W} {v0 v1 : Value} (h1 : ab_recv ab_mt 33 [v0, v1] w.2 = true) (h8 : ab_w8 st = true) : ab_Run ab_mt 7 8 ls (v1 :: v0 :: st) w = ab_aft 33 7 8 ls st (ab_Cl 33 [v0, v1] w) := E_call2 rfl h1 h8
theorem e_7_11 {ls : ab_L} {st : List Value} {w : ab_W} (h : ab_isI (ls 2) = true) : ab_Run ab_mt 7 11 ls st w = ab_Run ab_mt 7 12 ls (ab_gv (ls 2) :: st) w := E_loadi (n := 1) rfl h
theorem e_7_12 {ls : ab_L} {st : List Value} {w : ab_W} {x : Int32} : ab_Run ab_mt 7 12 ls (.int x :: st) w = ab_Run ab_mt 7 13 ls (.long x.toInt64 :: st) w := E_i2l rfl
theorem e_7_13 {ls : ab_L} {st : List Value} {w : ab_W} : ab_Run ab_mt 7 13 ls st w = ab_Run ab_mt 7 14 ls (.long (lN 0) :: st) w := E_push (n := 1) rfl
theorem e_7_14 {ls : ab_L} {st : List Value} {w : ab_W} : ab_Run ab_mt 7 14 ls st w = ab_Run ab_mt 7 17 ls (.long (lN 479) :: st) w := E_push (n := 3) rfl
theorem e_7_17 {ls : ab_L} {st : List Value} {w : ab_W} {v0 v1 v2 : Value} (h1 : ab_recv ab_mt 34 [v0, v1, v2] w.2 = true) (h8 : ab_w8 st = true) : ab_Run ab_mt 7 17 ls (v2 :: v1 :: v0 :: st) w = ab_aft 34 7 17 ls st (ab_Cl 34 [v0, v1, v2] w) := E_call3 rfl h1 h8
theorem e_7_20 {ls : ab_L} {st : List Value} {w : ab_W} (h : ab_isI (ls 3) = true) : ab_Run ab_mt 7 20 ls st w = ab_Run ab_mt 7 21 ls (ab_gv (ls 3) :: st) w := E_loadi (n := 1) rfl h
theorem e_7_21 {ls : ab_L} {st : List Value} {w : ab_W} {x : Int32} : ab_Run ab_mt 7 21 ls (.int x :: st) w = ab_Run ab_mt 7 22 ls (.long x.toInt64 :: st) w := E_i2l rfl
theorem e_7_22 {ls : ab_L} {st : List Value} {w : ab_W} : ab_Run ab_mt 7 22 ls st w = ab_Run ab_mt 7 23 ls (.long (lN 0) :: st) w := E_push (n := 1) rfl
theorem e_7_23 {ls : ab_L} {st : List Value} {w : ab_W} : ab_Run ab_mt 7 23 ls st w = ab_Run ab_mt 7 26 ls (.long (lN 5000) :: st) w := E_push (n := 3) rfl
theorem e_7_26 {ls : ab_L} {st : List Value} {w : ab_W} {v0 v1 v2 : Value} (h1 : ab_recv ab_mt 34 [v0, v1, v2] w.2 = true) (h8 : ab_w8 st = true) : ab_Run ab_mt 7 26 ls (v2 :: v1 :: v0 :: st) w = ab_aft 34 7 26 ls st (ab_Cl 34 [v0, v1, v2] w) := E_call3 rfl h1 h8
theorem e_7_29 {ls : ab_L} {st : List Value} {w : ab_W} (h : ab_isR (ls 0) = true) : ab_Run ab_mt 7 29 ls st w = ab_Run ab_mt 7 30 ls (ab_gv (ls 0) :: st) w := E_loadr (n := 1) rfl h
theorem e_7_30 {ls : ab_L} {st : List Value} {w : ab_W} {v0 : Value} (h1 : ab_recv ab_mt 36 [v0] w.2 = true) (h8 : ab_w8 st = true) : ab_Run ab_mt 7 30 ls (v0 :: st) w = ab_aft 36 7 30 ls st (ab_Cl 36 [v0] w) := E_call1 rfl h1 h8
theorem e_7_33 {ls : ab_L} {st : List Value} {w : ab_W} (h : ab_isR (ls 0) = true) : ab_Run ab_mt 7 33 ls st w = ab_Run ab_mt 7 34 ls (ab_gv (ls 0) :: st) w := E_loadr (n := 1) rfl h
theorem e_7_34 {ls : ab_L} {st : List Value} {w : ab_W} {a : Nat} (h : ab_isF 0 1 (w.2 a) = true) : ab_Run ab_mt 7 34 ls (.ref a :: st) w = ab_Run ab_mt 7 37 ls (ab_fv 1 (w.2 a) :: st) w := E_get rfl h
theorem e_7_37 {ls : ab_L} {st : List Value} {w : ab_W} {a : Nat} (h : ab_isF 2 2 (w.2 a) = true) : ab_Run ab_mt 7 37 ls (.ref a :: st) w = ab_Run ab_mt 7 40 ls (ab_fv 2 (w.2 a) :: st) w := E_get rfl h
theorem e_7_40 {ls : ab_L} {st : List Value} {w : ab_W} : ab_Run ab_mt 7 40 ls st w = ab_Run ab_mt 7 41 ls (.int (nI 1) :: st) w := E_push (n := 1) rfl
theorem e_7_41 {ls : ab_L} {st : List Value} {w : ab_W} : ab_Run ab_mt 7 41 ls st w = ab_Run ab_mt 7 43 ls (.int (nI 12) :: st) w := E_push (n := 2) rfl
theorem e_7_43 {ls : ab_L} {st : List Value} {w : ab_W} {v0 v1 v2 : Value} (h1 : ab_recv ab_mt 35 [v0, v1, v2] w.2 = true) (h8 : ab_w8 st = true) : ab_Run ab_mt 7 43 ls (v2 :: v1 :: v0 :: st) w = ab_aft 35 7 43 ls st (ab_Cl 35 [v0, v1, v2] w) := E_call3 rfl h1 h8
theorem e_7_46 {ls : ab_L} {st : List Value} {w : ab_W} (h : ab_isR (ls 0) = true) : ab_Run ab_mt 7 46 ls st w = ab_Run ab_mt 7 47 ls (ab_gv (ls 0) :: st) w := E_loadr (n := 1) rfl h
theorem e_7_47 {ls : ab_L} {st : List Value} {w : ab_W} {a : Nat} (h : ab_isF 0 3 (w.2 a) = true) : ab_Run ab_mt 7 47 ls (.ref a :: st) w = ab_Run ab_mt 7 50 ls (ab_fv 3 (w.2 a) :: st) w := E_get rfl h
theorem e_7_50 {ls : ab_L} {st : List Value} {w : ab_W} (h : ab_isR (ls 0) = true) : ab_Run ab_mt 7 50 ls st w = ab_Run ab_mt 7 51 ls (ab_gv (ls 0) :: st) w := E_loadr (n := 1) rfl h
theorem e_7_51 {ls : ab_L} {st : List Value} {w : ab_W} {a : Nat} (h : ab_isF 0 1 (w.2 a) = true) : ab_Run ab_mt 7 51 ls (.ref a :: st) w = ab_Run ab_mt 7 54 ls (ab_fv 1 (w.2 a) :: st) w := E_get rfl h
theorem e_7_54 {ls : ab_L} {st : List Value} {w : ab_W} {v0 v1 : Value} (h1 : ab_recv ab_mt 95 [v0, v1] w.2 = true) (h8 : ab_w8 st = true) : ab_Run ab_mt 7 54 ls (v1 :: v0 :: st) w = ab_aft 95 7 54 ls st (ab_Cl 95 [v0, v1] w) := E_call2 rfl h1 h8
theorem e_7_57 {ls : ab_L} {st : List Value} {w : ab_W} (h : ab_isR (ls 0) = true) : ab_Run ab_mt 7 57 ls st w = ab_Run ab_mt 7 58 ls (ab_gv (ls 0) :: st) w := E_loadr (n := 1) rfl h
theorem e_7_58 {ls : ab_L} {st : List Value} {w : ab_W} {a : Nat} (h : ab_isF 0 1 (w.2 a) = true) : ab_Run ab_mt 7 58 ls (.ref a :: st) w = ab_Run ab_mt 7 61 ls (ab_fv 1 (w.2 a) :: st) w := E_get rfl h
theorem e_7_61 {ls : ab_L} {st : List Value} {w : ab_W} {a : Nat} (h : ab_isF 2 2 (w.2 a) = true) : ab_Run ab_mt 7 61 ls (.ref a :: st) w = ab_Run ab_mt 7 64 ls (ab_fv 2 (w.2 a) :: st) w := E_get rfl h
theorem e_7_64 {ls : ab_L} {st : List Value} {w : ab_W} {a : Nat} (h : ab_isF 3 3 (w.2 a) = true) : ab_Run ab_mt 7 64 ls (.ref a :: st) w = ab_Run ab_mt 7 67 ls (ab_fv 3 (w.2 a) :: st) w := E_get rfl h
theorem e_7_67 {ls : ab_L} {st : List Value} {w : ab_W} {x : Int32} : ab_Run ab_mt 7 67 ls (.int x :: st) w = ab_Run ab_mt 7 69 (ab_l1 ls 4 (.int x)) st w := E_stori (n := 2) rfl
theorem e_7_69 {ls : ab_L} {st : List Value} {w : ab_W} (h : ab_isR (ls 0) = true) : ab_Run ab_mt 7 69 ls st w = ab_Run ab_mt 7 70 ls (ab_gv (ls 0) :: st) w := E_loadr (n := 1) rfl h
theorem e_7_70 {ls : ab_L} {st : List Value} {w : ab_W} {a : Nat} (h : ab_isF 0 1 (w.2 a) = true) : ab_Run ab_mt 7 70 ls (.ref a :: st) w = ab_Run ab_mt 7 73 ls (ab_fv 1 (w.2 a) :: st) w := E_get rfl h
theorem e_7_73 {ls : ab_L} {st : List Value} {w : ab_W} {a : Nat} (h : ab_isF 2 2 (w.2 a) = true) : ab_Run ab_mt 7 73 ls (.ref a :: st) w = ab_Run ab_mt 7 76 ls (ab_fv 2 (w.2 a) :: st) w := E_get rfl h
theorem e_7_76 {ls : ab_L} {st : List Value} {w : ab_W} (h : ab_isI (ls 4) = true) : ab_Run ab_mt 7 76 ls st w = ab_Run ab_mt 7 78 ls (ab_gv (ls 4) :: st) w := E_loadi (n := 2) rfl h
theorem e_7_78 {ls : ab_L} {st : List Value} {w : ab_W} {v0 v1 : Value} (h1 : ab_recv ab_mt 77 [v0, v1] w.2 = true) (h8 : ab_w8 st = true) : ab_Run ab_mt 7 78 ls (v1 :: v0 :: st) w = ab_aft 77 7 78 ls st (ab_Cl 77 [v0, v1] w) := E_call2 rfl h1 h8
theorem e_7_81 {ls : ab_L} {st : List Value} {w : ab_W} (h : ab_isR (ls 0) = true) : ab_Run ab_mt 7 81 ls st w = ab_Run ab_mt 7 82 ls (ab_gv (ls 0) :: st) w := E_loadr (n := 1) rfl h
theorem e_7_82 {ls : ab_L} {st : List Value} {w : ab_W} {a : Nat} (h : ab_isF 0 1 (w.2 a) = true) : ab_Run ab_mt 7 82 ls (.ref a :: st) w = ab_Run ab_mt 7 85 ls (ab_fv 1 (w.2 a) :: st) w := E_get rfl h
theorem e_7_85 {ls : ab_L} {st : List Value} {w : ab_W} {a : Nat} (h : ab_isF 2 2 (w.2 a) = true) : ab_Run ab_mt 7 85 ls (.ref a :: st) w = ab_Run ab_mt 7 88 ls (ab_fv 2 (w.2 a) :: st) w := E_get rfl h
theorem e_7_88 {ls : ab_L} {st : List Value} {w : ab_W} (h : ab_isI (ls 4) = true) : ab_Run ab_mt 7 88 ls st w = ab_Run ab_mt 7 90 ls (ab_gv (ls 4) :: st) w := E_loadi (n := 2) rfl h
theorem e_7_90 {ls : ab_L} {st : List Value} {w : ab_W} : ab_Run ab_mt 7 90 ls st w = ab_Run ab_mt 7 91 ls (.int (nI 0) :: st) w := E_push (n := 1) rfl
theorem e_7_91 {ls : ab_L} {st : List Value} {w : ab_W} (h : ab_isI (ls 1) = true) : ab_Run ab_mt 7 91 ls st w = ab_Run ab_mt 7 92 ls (ab_gv (ls 1) :: st) w := E_loadi (n := 1) rfl h
theorem e_7_92 {ls : ab_L} {st : List Value} {w : ab_W} {v0 v1 v2 v3 : Value} (h1 : ab_recv ab_mt 76 [v0, v1, v2, v3] w.2 = true) (h8 : ab_w8 st = true) : ab_Run ab_mt 7 92 ls (v3 :: v2 :: v1 :: v0 :: st) w = ab_aft 76 7 92 ls st (ab_Cl 76 [v0, v1, v2, v3] w) := E_call4 rfl h1 h8
theorem e_7_95 {ls : ab_L} {st : List Value} {w : ab_W} (h : ab_isR (ls 0) = true) : ab_Run ab_mt 7 95 ls st w = ab_Run ab_mt 7 96 ls (ab_gv (ls 0) :: st) w := E_loadr (n := 1) rfl h
theorem e_7_96 {ls : ab_L} {st : List Value} {w : ab_W} {a : Nat} (h : ab_isF 0 1 (w.2 a) = true) : ab_Run ab_mt 7 96 ls (.ref a :: st) w = ab_Run ab_mt 7 99 ls (ab_fv 1 (w.2 a) :: st) w := E_get rfl h
theorem e_7_99 {ls : ab_L} {st : List Value} {w : ab_W} {a : Nat} (h : ab_isF 2 2 (w.2 a) = true) : ab_Run ab_mt 7 99 ls (.ref a :: st) w = ab_Run ab_mt 7 102 ls (ab_fv 2 (w.2 a) :: st) w := E_get rfl h
theorem e_7_102 {ls : ab_L} {st : List Value} {w : ab_W} (h : ab_isI (ls 4) = true) : ab_Run ab_mt 7 102 ls st w = ab_Run ab_mt 7 104 ls (ab_gv (ls 4) :: st) w := E_loadi (n := 2) rfl h
theorem e_7_104 {ls : ab_L} {st : List Value} {w : ab_W} : ab_Run ab_mt 7 104 ls st w = ab_Run ab_mt 7 105 ls (.int (nI 1) :: st) w := E_push (n := 1) rfl
theorem e_7_105 {ls : ab_L} {st : List Value} {w : ab_W} (h : ab_isI (ls 2) = true) : ab_Run ab_mt 7 105 ls st w = ab_Run ab_mt 7 106 ls (ab_gv (ls 2) :: st) w := E_loadi (n := 1) rfl h
theorem e_7_106 {ls : ab_L} {st : List Value} {w : ab_W} {v0 v1 v2 v3 : Value} (h1 : ab_recv ab_mt 76 [v0, v1, v2, v3] w.2 = true) (h8 : ab_w8 st = true) : ab_Run ab_mt 7 106 ls (v3 :: v2 :: v1 :: v0 :: st) w = ab_aft 76 7 106 ls st (ab_Cl 76 [v0, v1, v2, v3] w) := E_call4 rfl h1 h8
theorem e_7_109 {ls : ab_L} {st : List Value} {w : ab_W} (h : ab_isR (ls 0) = true) : ab_Run ab_mt 7 109 ls st w = ab_Run ab_mt 7 110 ls (ab_gv (ls 0) :: st) w := E_loadr (n := 1) rfl h
theorem e_7_110 {ls : ab_L} {st : List Value} {w : ab_W} {a : Nat} (h : ab_isF 0 1 (w.2 a) = true) : ab_Run ab_mt 7 110 ls (.ref a :: st) w = ab_Run ab_mt 7 113 ls (ab_fv 1 (w.2 a) :: st) w := E_get rfl h
theorem e_7_113 {ls : ab_L} {st : List Value} {w : ab_W} {a : Nat} (h : ab_isF 2 2 (w.2 a) = true) : ab_Run ab_mt 7 113 ls (.ref a :: st) w = ab_Run ab_mt 7 116 ls (ab_fv 2 (w.2 a) :: st) w := E_get rfl h
theorem e_7_116 {ls : ab_L} {st : List Value} {w : ab_W} (h : ab_isI (ls 4) = true) : ab_Run ab_mt 7 116 ls st w = ab_Run ab_mt 7 118 ls (ab_gv (ls 4) :: st) w := E_loadi (n := 2) rfl h
theorem e_7_118 {ls : ab_L} {st : List Value} {w : ab_W} : ab_Run ab_mt 7 118 ls st w = ab_Run ab_mt 7 119 ls (.int (nI 2) :: st) w := E_push (n := 1) rfl
theorem e_7_119 {ls : ab_L} {st : List Value} {w : ab_W} (h : ab_isI (ls 3) = true) : ab_Run ab_mt 7 119 ls st w = ab_Run ab_mt 7 120 ls (ab_gv (ls 3) :: st) w := E_loadi (n := 1) rfl h
theorem e_7_120 {ls : ab_L} {st : List Value} {w : ab_W} {v0 v1 v2 v3 : Value} (h1 : ab_recv ab_mt 76 [v0, v1, v2, v3] w.2 = true) (h8 : ab_w8 st = true) : ab_Run ab_mt 7 120 ls (v3 :: v2 :: v1 :: v0 :: st) w = ab_aft 76 7 120 ls st (ab_Cl 76 [v0, v1, v2, v3] w) := E_call4 rfl h1 h8
theorem e_7_123 {ls : ab_L} {st : List Value} {w : ab_W} (h : ab_isI (ls 4) = true) : ab_Run ab_mt 7 123 ls st w = ab_Run ab_mt 7 125 ls (ab_gv (ls 4) :: st) w := E_loadi (n := 2) rfl h
theorem e_7_125 {ls : ab_L} {w : ab_W} {x : Int32} : ab_Run ab_mt 7 125 ls [.int x] w = some (.inl (some (.int x)), w) := E_reti rfl
theorem rv_7 {σ : ab_S} {t : Nat} {x0 : Int32} {x1 : Int32} {x2 : Int32} : ab_recv ab_mt 7 [.ref t, .int x0, .int x1, .int x2] σ = ab_isO 0 (σ t) := rfl
theorem x_7_8 {ls : ab_L} {rest : List Value} {E : Nat} {w : ab_W} : ab_aft 33 7 8 ls rest (some (.inr E, w)) = some (.inr E, w) := ab_aft_x rfl rfl (by unfold ab_hand; rfl)
theorem x_7_17 {ls : ab_L} {rest : List Value} {E : Nat} {w : ab_W} : ab_aft 34 7 17 ls rest (some (.inr E, w)) = some (.inr E, w) := ab_aft_x rfl rfl (by unfold ab_hand; rfl)
theorem x_7_26 {ls : ab_L} {rest : List Value} {E : Nat} {w : ab_W} : ab_aft 34 7 26 ls rest (some (.inr E, w)) = some (.inr E, w) := ab_aft_x rfl rfl (by unfold ab_hand; rfl)
theorem x_7_30 {ls : ab_L} {rest : List Value} {E : Nat} {w : ab_W} : ab_aft 36 7 30 ls rest (some (.inr E, w)) = some (.inr E, w) := ab_aft_x rfl rfl (by unfold ab_hand; rfl)
theorem x_7_43 {ls : ab_L} {rest : List Value} {E : Nat} {w : ab_W} : ab_aft 35 7 43 ls rest (some (.inr E, w)) = some (.inr E, w) := ab_aft_x rfl rfl (by unfold ab_hand; rfl)
theorem e_8_0 {ls : ab_L} {st : List Value} {w : ab_W} (h : ab_isI (ls 1) = true) : ab_Run ab_mt 8 0 ls st w = ab_Run ab_mt 8 1 ls (ab_gv (ls 1) :: st) w := E_loadi (n := 1) rfl h
theorem e_8_1 {ls : ab_L} {st : List Value} {w : ab_W} (h : ab_isR (ls 0) = true) : ab_Run ab_mt 8 1 ls st w = ab_Run ab_mt 8 2 ls (ab_gv (ls 0) :: st) w := E_loadr (n := 1) rfl h
theorem e_8_2 {ls : ab_L} {st : List Value} {w : ab_W} {a : Nat} (h : ab_isF 0 1 (w.2 a) = true) : ab_Run ab_mt 8 2 ls (.ref a :: st) w = ab_Run ab_mt 8 5 ls (ab_fv 1 (w.2 a) :: st) w := E_get rfl h
theorem e_8_5 {ls : ab_L} {st : List Value} {w : ab_W} {a : Nat} (h : ab_isF 2 2 (w.2 a) = true) : ab_Run ab_mt 8 5 ls (.ref a :: st) w = ab_Run ab_mt 8 8 ls (ab_fv 2 (w.2 a) :: st) w := E_get rfl h
theorem e_8_8 {ls : ab_L} {st : List Value} {w : ab_W} {a : Nat} (h : ab_isF 3 3 (w.2 a) = true) : ab_Run ab_mt 8 8 ls (.ref a :: st) w = ab_Run ab_mt 8 11 ls (ab_fv 3 (w.2 a) :: st) w := E_get rfl h
theorem e_8_11 {ls : ab_L} {st : List Value} {w : ab_W} {v0 v1 : Value} (h1 : ab_recv ab_mt 33 [v0, v1] w.2 = true) (h8 : ab_w8 st = true) : ab_Run ab_mt 8 11 ls (v1 :: v0 :: st) w = ab_aft 33 8 11 ls st (ab_Cl 33 [v0, v1] w) := E_call2 rfl h1 h8
theorem e_8_14 {ls : ab_L} {st : List Value} {w : ab_W} (h : ab_isR (ls 0) = true) : ab_Run ab_mt 8 14 ls st w = ab_Run ab_mt 8 15 ls (ab_gv (ls 0) :: st) w := E_loadr (n := 1) rfl h
theorem e_8_15 {ls : ab_L} {st : List Value} {w : ab_W} {v0 : Value} (h1 : ab_recv ab_mt 36 [v0] w.2 = true) (h8 : ab_w8 st = true) : ab_Run ab_mt 8 15 ls (v0 :: st) w = ab_aft 36 8 15 ls st (ab_Cl 36 [v0] w) := E_call1 rfl h1 h8
theorem e_8_18 {ls : ab_L} {st : List Value} {w : ab_W} (h : ab_isR (ls 0) = true) : ab_Run ab_mt 8 18 ls st w = ab_Run ab_mt 8 19 ls (ab_gv (ls 0) :: st) w := E_loadr (n := 1) rfl h
theorem e_8_19 {ls : ab_L} {st : List Value} {w : ab_W} {a : Nat} (h : ab_isF 0 3 (w.2 a) = true) : ab_Run ab_mt 8 19 ls (.ref a :: st) w = ab_Run ab_mt 8 22 ls (ab_fv 3 (w.2 a) :: st) w := E_get rfl h
theorem e_8_22 {ls : ab_L} {st : List Value} {w : ab_W} (h : ab_isR (ls 0) = true) : ab_Run ab_mt 8 22 ls st w = ab_Run ab_mt 8 23 ls (ab_gv (ls 0) :: st) w := E_loadr (n := 1) rfl h
theorem e_8_23 {ls : ab_L} {st : List Value} {w : ab_W} {a : Nat} (h : ab_isF 0 1 (w.2 a) = true) : ab_Run ab_mt 8 23 ls (.ref a :: st) w = ab_Run ab_mt 8 26 ls (ab_fv 1 (w.2 a) :: st) w := E_get rfl h
theorem e_8_26 {ls : ab_L} {st : List Value} {w : ab_W} {v0 v1 : Value} (h1 : ab_recv ab_mt 95 [v0, v1] w.2 = true) (h8 : ab_w8 st = true) : ab_Run ab_mt 8 26 ls (v1 :: v0 :: st) w = ab_aft 95 8 26 ls st (ab_Cl 95 [v0, v1] w) := E_call2 rfl h1 h8
theorem e_8_29 {ls : ab_L} {st : List Value} {w : ab_W} (h : ab_isR (ls 0) = true) : ab_Run ab_mt 8 29 ls st w = ab_Run ab_mt 8 30 ls (ab_gv (ls 0) :: st) w := E_loadr (n := 1) rfl h
theorem e_8_30 {ls : ab_L} {st : List Value} {w : ab_W} {a : Nat} (h : ab_isF 0 1 (w.2 a) = true) : ab_Run ab_mt 8 30 ls (.ref a :: st) w = ab_Run ab_mt 8 33 ls (ab_fv 1 (w.2 a) :: st) w := E_get rfl h
theorem e_8_33 {ls : ab_L} {st : List Value} {w : ab_W} {a : Nat} (h : ab_isF 2 2 (w.2 a) = true) : ab_Run ab_mt 8 33 ls (.ref a :: st) w = ab_Run ab_mt 8 36 ls (ab_fv 2 (w.2 a) :: st) w := E_get rfl h
theorem e_8_36 {ls : ab_L} {st : List Value} {w : ab_W} (h : ab_isI (ls 1) = true) : ab_Run ab_mt 8 36 ls st w = ab_Run ab_mt 8 37 ls (ab_gv (ls 1) :: st) w := E_loadi (n := 1) rfl h
theorem e_8_37 {ls : ab_L} {st : List Value} {w : ab_W} {v0 v1 : Value} (h1 : ab_recv ab_mt 78 [v0, v1] w.2 = true) (h8 : ab_w8 st = true) : ab_Run ab_mt 8 37 ls (v1 :: v0 :: st) w = ab_aft 78 8 37 ls st (ab_Cl 78 [v0, v1] w) := E_call2 rfl h1 h8
theorem e_8_40 {ls : ab_L} {st : List Value} {w : ab_W} (h : ab_isR (ls 0) = true) : ab_Run ab_mt 8 40 ls st w = ab_Run ab_mt 8 41 ls (ab_gv (ls 0) :: st) w := E_loadr (n := 1) rfl h
theorem e_8_41 {ls : ab_L} {st : List Value} {w : ab_W} {a : Nat} (h : ab_isF 0 1 (w.2 a) = true) : ab_Run ab_mt 8 41 ls (.ref a :: st) w = ab_Run ab_mt 8 44 ls (ab_fv 1 (w.2 a) :: st) w := E_get rfl h
theorem e_8_44 {ls : ab_L} {st : List Value} {w : ab_W} {a : Nat} (h : ab_isF 2 2 (w.2 a) = true) : ab_Run ab_mt 8 44 ls (.ref a :: st) w = ab_Run ab_mt 8 47 ls (ab_fv 2 (w.2 a) :: st) w := E_get rfl h
theorem e_8_47 {ls : ab_L} {st : List Value} {w : ab_W} {a : Nat} (h : ab_isF 3 3 (w.2 a) = true) : ab_Run ab_mt 8 47 ls (.ref a :: st) w = ab_Run ab_mt 8 50 ls (ab_fv 3 (w.2 a) :: st) w := E_get rfl h
theorem e_8_50 {ls : ab_L} {w : ab_W} {x : Int32} : ab_Run ab_mt 8 50 ls [.int x] w = some (.inl (some (.int x)), w) := E_reti rfl
theorem rv_8 {σ : ab_S} {t : Nat} {x0 : Int32} : ab_recv ab_mt 8 [.ref t, .int x0] σ = ab_isO 0 (σ t) := rfl
theorem x_8_11 {ls : ab_L} {rest : List Value} {E : Nat} {w : ab_W} : ab_aft 33 8 11 ls rest (some (.inr E, w)) = some (.inr E, w) := ab_aft_x rfl rfl (by unfold ab_hand; rfl)
theorem x_8_15 {ls : ab_L} {rest : List Value} {E : Nat} {w : ab_W} : ab_aft 36 8 15 ls rest (some (.inr E, w)) = some (.inr E, w) := ab_aft_x rfl rfl (by unfold ab_hand; rfl)
theorem e_9_0 {ls : ab_L} {st : List Value} {w : ab_W} (h : ab_isR (ls 0) = true) : ab_Run ab_mt 9 0 ls st w = ab_Run ab_mt 9 1 ls (ab_gv (ls 0) :: st) w := E_loadr (n := 1) rfl h
theorem e_9_1 {ls : ab_L} {st : List Value} {w : ab_W} {a : Nat} (h : ab_isF 0 8 (w.2 a) = true) : ab_Run ab_mt 9 1 ls (.ref a :: st) w = ab_Run ab_mt 9 4 ls (ab_fv 8 (w.2 a) :: st) w := E_get rfl h
theorem e_9_4 {ls : ab_L} {st : List Value} {w : ab_W} (h : ab_isR (ls 0) = true) : ab_Run ab_mt 9 4 ls st w = ab_Run ab_mt 9 5 ls (ab_gv (ls 0) :: st) w := E_loadr (n := 1) rfl h
theorem e_9_5 {ls : ab_L} {st : List Value} {w : ab_W} {a : Nat} (h : ab_isF 0 6 (w.2 a) = true) : ab_Run ab_mt 9 5 ls (.ref a :: st) w = ab_Run ab_mt 9 8 ls (ab_fv 6 (w.2 a) :: st) w := E_get rfl h
theorem e_9_8 {ls : ab_L} {st : List Value} {w : ab_W} (h : ab_isR (ls 0) = true) : ab_Run ab_mt 9 8 ls st w = ab_Run ab_mt 9 9 ls (ab_gv (ls 0) :: st) w := E_loadr (n := 1) rfl h
theorem e_9_9 {ls : ab_L} {st : List Value} {w : ab_W} {a : Nat} (h : ab_isF 0 7 (w.2 a) = true) : ab_Run ab_mt 9 9 ls (.ref a :: st) w = ab_Run ab_mt 9 12 ls (ab_fv 7 (w.2 a) :: st) w := E_get rfl h
theorem e_9_12 {ls : ab_L} {st : List Value} {w : ab_W} {v0 v1 v2 : Value} (h1 : ab_recv ab_mt 99 [v0, v1, v2] w.2 = true) (h8 : ab_w8 st = true) : ab_Run ab_mt 9 12 ls (v2 :: v1 :: v0 :: st) w = ab_aft 99 9 12 ls st (ab_Cl 99 [v0, v1, v2] w) := E_call3 rfl h1 h8
theorem e_9_15 {ls : ab_L} {st : List Value} {w : ab_W} (h : ab_isR (ls 0) = true) : ab_Run ab_mt 9 15 ls st w = ab_Run ab_mt 9 16 ls (ab_gv (ls 0) :: st) w := E_loadr (n := 1) rfl h
theorem e_9_16 {ls : ab_L} {st : List Value} {w : ab_W} {a : Nat} (h : ab_isF 0 8 (w.2 a) = true) : ab_Run ab_mt 9 16 ls (.ref a :: st) w = ab_Run ab_mt 9 19 ls (ab_fv 8 (w.2 a) :: st) w := E_get rfl h
theorem e_9_19 {ls : ab_L} {st : List Value} {w : ab_W} {a : Nat} (h : ab_isF 6 2 (w.2 a) = true) : ab_Run ab_mt 9 19 ls (.ref a :: st) w = ab_Run ab_mt 9 22 ls (ab_fv 2 (w.2 a) :: st) w := E_get rfl h
theorem e_9_22 {ls : ab_L} {st : List Value} {w : ab_W} {x : Int32} : ab_Run ab_mt 9 22 ls (.int x :: st) w = if x = 0 then ab_Run ab_mt 9 25 ls st w else ab_Run ab_mt 9 35 ls st w := E_if_ne rfl
theorem e_9_25 {ls : ab_L} {w : ab_W} : ab_Run ab_mt 9 25 ls [] w = some (.inr 1, (ab_th w.1, w.2)) := E_thr rfl
theorem e_9_35 {ls : ab_L} {st : List Value} {w : ab_W} (h : ab_isR (ls 0) = true) : ab_Run ab_mt 9 35 ls st w = ab_Run ab_mt 9 36 ls (ab_gv (ls 0) :: st) w := E_loadr (n := 1) rfl h
theorem e_9_36 {ls : ab_L} {st : List Value} {w : ab_W} {v0 : Value} (h1 : ab_recv ab_mt 36 [v0] w.2 = true) (h8 : ab_w8 st = true) : ab_Run ab_mt 9 36 ls (v0 :: st) w = ab_aft 36 9 36 ls st (ab_Cl 36 [v0] w) := E_call1 rfl h1 h8
theorem e_9_39 {ls : ab_L} {st : List Value} {w : ab_W} (h : ab_isR (ls 0) = true) : ab_Run ab_mt 9 39 ls st w = ab_Run ab_mt 9 40 ls (ab_gv (ls 0) :: st) w := E_loadr (n := 1) rfl h
theorem e_9_40 {ls : ab_L} {st : List Value} {w : ab_W} {a : Nat} (h : ab_isF 0 1 (w.2 a) = true) : ab_Run ab_mt 9 40 ls (.ref a :: st) w = ab_Run ab_mt 9 43 ls (ab_fv 1 (w.2 a) :: st) w := E_get rfl h
theorem e_9_43 {ls : ab_L} {st : List Value} {w : ab_W} {a : Nat} (h : ab_isF 2 0 (w.2 a) = true) : ab_Run ab_mt 9 43 ls (.ref a :: st) w = ab_Run ab_mt 9 46 ls (ab_fv 0 (w.2 a) :: st) w := E_get rfl h
theorem e_9_46 {ls : ab_L} {st : List Value} {w : ab_W} (h : ab_isR (ls 0) = true) : ab_Run ab_mt 9 46 ls st w = ab_Run ab_mt 9 47 ls (ab_gv (ls 0) :: st) w := E_loadr (n := 1) rfl h
theorem e_9_47 {ls : ab_L} {st : List Value} {w : ab_W} {a : Nat} (h : ab_isF 0 8 (w.2 a) = true) : ab_Run ab_mt 9 47 ls (.ref a :: st) w = ab_Run ab_mt 9 50 ls (ab_fv 8 (w.2 a) :: st) w := E_get rfl h
theorem e_9_50 {ls : ab_L} {st : List Value} {w : ab_W} {a : Nat} (h : ab_isF 6 0 (w.2 a) = true) : ab_Run ab_mt 9 50 ls (.ref a :: st) w = ab_Run ab_mt 9 53 ls (ab_fv 0 (w.2 a) :: st) w := E_get rfl h
theorem e_9_53 {ls : ab_L} {st : List Value} {w : ab_W} {a : Nat} (h : ab_isF 3 3 (w.2 a) = true) : ab_Run ab_mt 9 53 ls (.ref a :: st) w = ab_Run ab_mt 9 56 ls (ab_fv 3 (w.2 a) :: st) w := E_get rfl h
theorem e_9_56 {ls : ab_L} {st : List Value} {w : ab_W} : ab_Run ab_mt 9 56 ls st w = ab_Run ab_mt 9 58 ls (.int (nI 24) :: st) w := E_push (n := 2) rfl
theorem e_9_58 {ls : ab_L} {st : List Value} {w : ab_W} {v0 v1 v2 : Value} (h1 : ab_recv ab_mt 35 [v0, v1, v2] w.2 = true) (h8 : ab_w8 st = true) : ab_Run ab_mt 9 58 ls (v2 :: v1 :: v0 :: st) w = ab_aft 35 9 58 ls st (ab_Cl 35 [v0, v1, v2] w) := E_call3 rfl h1 h8
theorem e_9_61 {ls : ab_L} {st : List Value} {w : ab_W} (h : ab_isR (ls 0) = true) : ab_Run ab_mt 9 61 ls st w = ab_Run ab_mt 9 62 ls (ab_gv (ls 0) :: st) w := E_loadr (n := 1) rfl h
theorem e_9_62 {ls : ab_L} {st : List Value} {w : ab_W} {a : Nat} (h : ab_isF 0 3 (w.2 a) = true) : ab_Run ab_mt 9 62 ls (.ref a :: st) w = ab_Run ab_mt 9 65 ls (ab_fv 3 (w.2 a) :: st) w := E_get rfl h
theorem e_9_65 {ls : ab_L} {st : List Value} {w : ab_W} (h : ab_isR (ls 0) = true) : ab_Run ab_mt 9 65 ls st w = ab_Run ab_mt 9 66 ls (ab_gv (ls 0) :: st) w := E_loadr (n := 1) rfl h
theorem e_9_66 {ls : ab_L} {st : List Value} {w : ab_W} {a : Nat} (h : ab_isF 0 1 (w.2 a) = true) : ab_Run ab_mt 9 66 ls (.ref a :: st) w = ab_Run ab_mt 9 69 ls (ab_fv 1 (w.2 a) :: st) w := E_get rfl h
theorem e_9_69 {ls : ab_L} {st : List Value} {w : ab_W} {v0 v1 : Value} (h1 : ab_recv ab_mt 95 [v0, v1] w.2 = true) (h8 : ab_w8 st = true) : ab_Run ab_mt 9 69 ls (v1 :: v0 :: st) w = ab_aft 95 9 69 ls st (ab_Cl 95 [v0, v1] w) := E_call2 rfl h1 h8
theorem e_9_72 {ls : ab_L} {st : List Value} {w : ab_W} : ab_Run ab_mt 9 72 ls st w = ab_Run ab_mt 9 73 ls (.int (nI 0) :: st) w := E_push (n := 1) rfl
theorem e_9_73 {ls : ab_L} {st : List Value} {w : ab_W} {x : Int32} : ab_Run ab_mt 9 73 ls (.int x :: st) w = ab_Run ab_mt 9 74 (ab_l1 ls 1 (.int x)) st w := E_stori (n := 1) rfl
theorem e_9_74 {ls : ab_L} {st : List Value} {w : ab_W} (h : ab_isI (ls 1) = true) : ab_Run ab_mt 9 74 ls st w = ab_Run ab_mt 9 75 ls (ab_gv (ls 1) :: st) w := E_loadi (n := 1) rfl h
theorem e_9_75 {ls : ab_L} {st : List Value} {w : ab_W} (h : ab_isR (ls 0) = true) : ab_Run ab_mt 9 75 ls st w = ab_Run ab_mt 9 76 ls (ab_gv (ls 0) :: st) w := E_loadr (n := 1) rfl h
theorem e_9_76 {ls : ab_L} {st : List Value} {w : ab_W} {a : Nat} (h : ab_isF 0 8 (w.2 a) = true) : ab_Run ab_mt 9 76 ls (.ref a :: st) w = ab_Run ab_mt 9 79 ls (ab_fv 8 (w.2 a) :: st) w := E_get rfl h
theorem e_9_79 {ls : ab_L} {st : List Value} {w : ab_W} {a : Nat} (h : ab_isF 6 0 (w.2 a) = true) : ab_Run ab_mt 9 79 ls (.ref a :: st) w = ab_Run ab_mt 9 82 ls (ab_fv 0 (w.2 a) :: st) w := E_get rfl h
theorem e_9_82 {ls : ab_L} {st : List Value} {w : ab_W} {a : Nat} (h : ab_isF 3 3 (w.2 a) = true) : ab_Run ab_mt 9 82 ls (.ref a :: st) w = ab_Run ab_mt 9 85 ls (ab_fv 3 (w.2 a) :: st) w := E_get rfl h
theorem e_9_85 {ls : ab_L} {st : List Value} {w : ab_W} {x y : Int32} : ab_Run ab_mt 9 85 ls (.int y :: .int x :: st) w = if y ≤ x then ab_Run ab_mt 9 112 ls st w else ab_Run ab_mt 9 88 ls st w := E_ic_ge rfl
theorem e_9_88 {ls : ab_L} {st : List Value} {w : ab_W} (h : ab_isR (ls 0) = true) : ab_Run ab_mt 9 88 ls st w = ab_Run ab_mt 9 89 ls (ab_gv (ls 0) :: st) w := E_loadr (n := 1) rfl h
theorem e_9_89 {ls : ab_L} {st : List Value} {w : ab_W} {a : Nat} (h : ab_isF 0 1 (w.2 a) = true) : ab_Run ab_mt 9 89 ls (.ref a :: st) w = ab_Run ab_mt 9 92 ls (ab_fv 1 (w.2 a) :: st) w := E_get rfl h
theorem e_9_92 {ls : ab_L} {st : List Value} {w : ab_W} {a : Nat} (h : ab_isF 2 0 (w.2 a) = true) : ab_Run ab_mt 9 92 ls (.ref a :: st) w = ab_Run ab_mt 9 95 ls (ab_fv 0 (w.2 a) :: st) w := E_get rfl h
theorem e_9_95 {ls : ab_L} {st : List Value} {w : ab_W} (h : ab_isR (ls 0) = true) : ab_Run ab_mt 9 95 ls st w = ab_Run ab_mt 9 96 ls (ab_gv (ls 0) :: st) w := E_loadr (n := 1) rfl h
theorem e_9_96 {ls : ab_L} {st : List Value} {w : ab_W} {a : Nat} (h : ab_isF 0 8 (w.2 a) = true) : ab_Run ab_mt 9 96 ls (.ref a :: st) w = ab_Run ab_mt 9 99 ls (ab_fv 8 (w.2 a) :: st) w := E_get rfl h
theorem e_9_99 {ls : ab_L} {st : List Value} {w : ab_W} {a : Nat} (h : ab_isF 6 0 (w.2 a) = true) : ab_Run ab_mt 9 99 ls (.ref a :: st) w = ab_Run ab_mt 9 102 ls (ab_fv 0 (w.2 a) :: st) w := E_get rfl h
theorem e_9_102 {ls : ab_L} {st : List Value} {w : ab_W} (h : ab_isI (ls 1) = true) : ab_Run ab_mt 9 102 ls st w = ab_Run ab_mt 9 103 ls (ab_gv (ls 1) :: st) w := E_loadi (n := 1) rfl h
theorem e_9_103 {ls : ab_L} {st : List Value} {w : ab_W} {v0 v1 v2 : Value} (h1 : ab_recv ab_mt 79 [v0, v1, v2] w.2 = true) (h8 : ab_w8 st = true) : ab_Run ab_mt 9 103 ls (v2 :: v1 :: v0 :: st) w = ab_aft 79 9 103 ls st (ab_Cl 79 [v0, v1, v2] w) := E_call3 rfl h1 h8
theorem e_9_106 {ls : ab_L} {st : List Value} {w : ab_W} (h : ab_isI (ls 1) = true) : ab_Run ab_mt 9 106 ls st w = ab_Run ab_mt 9 109 (ab_l1 ls 1 (.int (ab_gi (ls 1) + (nI 1)))) st w := E_iinc rfl h
theorem e_9_109 {ls : ab_L} {st : List Value} {w : ab_W} : ab_Run ab_mt 9 109 ls st w = ab_Run ab_mt 9 74 ls st w := E_goto rfl
theorem e_9_112 {ls : ab_L} {st : List Value} {w : ab_W} (h : ab_isR (ls 0) = true) : ab_Run ab_mt 9 112 ls st w = ab_Run ab_mt 9 113 ls (ab_gv (ls 0) :: st) w := E_loadr (n := 1) rfl h
theorem e_9_113 {ls : ab_L} {st : List Value} {w : ab_W} : ab_Run ab_mt 9 113 ls st w = ab_Run ab_mt 9 114 ls (.int (nI 0) :: st) w := E_push (n := 1) rfl
theorem e_9_114 {ls : ab_L} {st : List Value} {w : ab_W} {a : Nat} {x : Int32} (h : ab_isF 0 7 (w.2 a) = true) : ab_Run ab_mt 9 114 ls (.int x :: .ref a :: st) w = ab_Run ab_mt 9 117 ls st (w.1, ab_up w.2 a (ab_sf 7 (.int x) (w.2 a))) := E_put rfl h rfl
theorem e_9_117 {ls : ab_L} {st : List Value} {w : ab_W} (h : ab_isR (ls 0) = true) : ab_Run ab_mt 9 117 ls st w = ab_Run ab_mt 9 118 ls (ab_gv (ls 0) :: st) w := E_loadr (n := 1) rfl h
theorem e_9_118 {ls : ab_L} {st : List Value} {w : ab_W} {a : Nat} (h : ab_isF 0 0 (w.2 a) = true) : ab_Run ab_mt 9 118 ls (.ref a :: st) w = ab_Run ab_mt 9 121 ls (ab_fv 0 (w.2 a) :: st) w := E_get rfl h
theorem e_9_121 {ls : ab_L} {st : List Value} {w : ab_W} {v0 : Value} (h1 : ab_recv ab_mt 48 [v0] w.2 = true) (h8 : ab_w8 st = true) : ab_Run ab_mt 9 121 ls (v0 :: st) w = ab_aft 48 9 121 ls st (ab_Cl 48 [v0] w) := E_call1 rfl h1 h8
theorem e_9_124 {ls : ab_L} {st : List Value} {w : ab_W} (h : ab_isR (ls 0) = true) : ab_Run ab_mt 9 124 ls st w = ab_Run ab_mt 9 125 ls (ab_gv (ls 0) :: st) w := E_loadr (n := 1) rfl h
theorem e_9_125 {ls : ab_L} {st : List Value} {w : ab_W} {a : Nat} (h : ab_isF 0 1 (w.2 a) = true) : ab_Run ab_mt 9 125 ls (.ref a :: st) w = ab_Run ab_mt 9 128 ls (ab_fv 1 (w.2 a) :: st) w := E_get rfl h
theorem e_9_128 {ls : ab_L} {st : List Value} {w : ab_W} {a : Nat} (h : ab_isF 2 0 (w.2 a) = true) : ab_Run ab_mt 9 128 ls (.ref a :: st) w = ab_Run ab_mt 9 131 ls (ab_fv 0 (w.2 a) :: st) w := E_get rfl h
theorem e_9_131 {ls : ab_L} {st : List Value} {w : ab_W} {a : Nat} (h : ab_isF 3 3 (w.2 a) = true) : ab_Run ab_mt 9 131 ls (.ref a :: st) w = ab_Run ab_mt 9 134 ls (ab_fv 3 (w.2 a) :: st) w := E_get rfl h
theorem e_9_134 {ls : ab_L} {w : ab_W} {x : Int32} : ab_Run ab_mt 9 134 ls [.int x] w = some (.inl (some (.int x)), w) := E_reti rfl
theorem rv_9 {σ : ab_S} {t : Nat} : ab_recv ab_mt 9 [.ref t] σ = ab_isO 0 (σ t) := rfl
theorem x_9_12 {ls : ab_L} {rest : List Value} {E : Nat} {w : ab_W} : ab_aft 99 9 12 ls rest (some (.inr E, w)) = some (.inr E, w) := ab_aft_x rfl rfl (by unfold ab_hand; rfl)
theorem x_9_36 {ls : ab_L} {rest : List Value} {E : Nat} {w : ab_W} : ab_aft 36 9 36 ls rest (some (.inr E, w)) = some (.inr E, w) := ab_aft_x rfl rfl (by unfold ab_hand; rfl)
theorem x_9_58 {ls : ab_L} {rest : List Value} {E : Nat} {w : ab_W} : ab_aft 35 9 58 ls rest (some (.inr E, w)) = some (.inr E, w) := ab_aft_x rfl rfl (by unfold ab_hand; rfl)
theorem x_9_121 {ls : ab_L} {rest : List Value} {E : Nat} {w : ab_W} : ab_aft 48 9 121 ls rest (some (.inr E, w)) = some (.inr E, w) := ab_aft_x rfl rfl (by unfold ab_hand; rfl)
theorem e_10_0 {ls : ab_L} {st : List Value} {w : ab_W} (h : ab_isR (ls 0) = true) : ab_Run ab_mt 10 0 ls st w = ab_Run ab_mt 10 1 ls (ab_gv (ls 0) :: st) w := E_loadr (n := 1) rfl h
theorem e_10_1 {ls : ab_L} {st : List Value} {w : ab_W} {v0 : Value} (h1 : ab_recv ab_mt 36 [v0] w.2 = true) (h8 : ab_w8 st = true) : ab_Run ab_mt 10 1 ls (v0 :: st) w = ab_aft 36 10 1 ls st (ab_Cl 36 [v0] w) := E_call1 rfl h1 h8
theorem e_10_4 {ls : ab_L} {st : List Value} {w : ab_W} (h : ab_isR (ls 0) = true) : ab_Run ab_mt 10 4 ls st w = ab_Run ab_mt 10 5 ls (ab_gv (ls 0) :: st) w := E_loadr (n := 1) rfl h
theorem e_10_5 {ls : ab_L} {st : List Value} {w : ab_W} {a : Nat} (h : ab_isF 0 3 (w.2 a) = true) : ab_Run ab_mt 10 5 ls (.ref a :: st) w = ab_Run ab_mt 10 8 ls (ab_fv 3 (w.2 a) :: st) w := E_get rfl h
theorem e_10_8 {ls : ab_L} {st : List Value} {w : ab_W} {a : Nat} (h : ab_isF 5 1 (w.2 a) = true) : ab_Run ab_mt 10 8 ls (.ref a :: st) w = ab_Run ab_mt 10 11 ls (ab_fv 1 (w.2 a) :: st) w := E_get rfl h
theorem e_10_11 {ls : ab_L} {st : List Value} {w : ab_W} {x : Int32} : ab_Run ab_mt 10 11 ls (.int x :: st) w = if x = 0 then ab_Run ab_mt 10 14 ls st w else ab_Run ab_mt 10 24 ls st w := E_if_ne rfl
theorem e_10_14 {ls : ab_L} {w : ab_W} : ab_Run ab_mt 10 14 ls [] w = some (.inr 0, (ab_th w.1, w.2)) := E_thr rfl
theorem e_10_24 {ls : ab_L} {st : List Value} {w : ab_W} (h : ab_isR (ls 0) = true) : ab_Run ab_mt 10 24 ls st w = ab_Run ab_mt 10 25 ls (ab_gv (ls 0) :: st) w := E_loadr (n := 1) rfl h
theorem e_10_25 {ls : ab_L} {st : List Value} {w : ab_W} {a : Nat} (h : ab_isF 0 3 (w.2 a) = true) : ab_Run ab_mt 10 25 ls (.ref a :: st) w = ab_Run ab_mt 10 28 ls (ab_fv 3 (w.2 a) :: st) w := E_get rfl h
theorem e_10_28 {ls : ab_L} {st : List Value} {w : ab_W} (h : ab_isR (ls 0) = true) : ab_Run ab_mt 10 28 ls st w = ab_Run ab_mt 10 29 ls (ab_gv (ls 0) :: st) w := E_loadr (n := 1) rfl h
theorem e_10_29 {ls : ab_L} {st : List Value} {w : ab_W} {a : Nat} (h : ab_isF 0 1 (w.2 a) = true) : ab_Run ab_mt 10 29 ls (.ref a :: st) w = ab_Run ab_mt 10 32 ls (ab_fv 1 (w.2 a) :: st) w := E_get rfl h
theorem e_10_32 {ls : ab_L} {st : List Value} {w : ab_W} {v0 v1 : Value} (h1 : ab_recv ab_mt 97 [v0, v1] w.2 = true) (h8 : ab_w8 st = true) : ab_Run ab_mt 10 32 ls (v1 :: v0 :: st) w = ab_aft 97 10 32 ls st (ab_Cl 97 [v0, v1] w) := E_call2 rfl h1 h8
theorem e_10_35 {ls : ab_L} {st : List Value} {w : ab_W} (h : ab_isR (ls 0) = true) : ab_Run ab_mt 10 35 ls st w = ab_Run ab_mt 10 36 ls (ab_gv (ls 0) :: st) w := E_loadr (n := 1) rfl h
theorem e_10_36 {ls : ab_L} {st : List Value} {w : ab_W} {a : Nat} (h : ab_isF 0 0 (w.2 a) = true) : ab_Run ab_mt 10 36 ls (.ref a :: st) w = ab_Run ab_mt 10 39 ls (ab_fv 0 (w.2 a) :: st) w := E_get rfl h
theorem e_10_39 {ls : ab_L} {st : List Value} {w : ab_W} {v0 : Value} (h1 : ab_recv ab_mt 48 [v0] w.2 = true) (h8 : ab_w8 st = true) : ab_Run ab_mt 10 39 ls (v0 :: st) w = ab_aft 48 10 39 ls st (ab_Cl 48 [v0] w) := E_call1 rfl h1 h8
theorem e_10_42 {ls : ab_L} {st : List Value} {w : ab_W} (h : ab_isR (ls 0) = true) : ab_Run ab_mt 10 42 ls st w = ab_Run ab_mt 10 43 ls (ab_gv (ls 0) :: st) w := E_loadr (n := 1) rfl h
theorem e_10_43 {ls : ab_L} {st : List Value} {w : ab_W} {a : Nat} (h : ab_isF 0 3 (w.2 a) = true) : ab_Run ab_mt 10 43 ls (.ref a :: st) w = ab_Run ab_mt 10 46 ls (ab_fv 3 (w.2 a) :: st) w := E_get rfl h
theorem e_10_46 {ls : ab_L} {st : List Value} {w : ab_W} {a : Nat} (h : ab_isF 5 1 (w.2 a) = true) : ab_Run ab_mt 10 46 ls (.ref a :: st) w = ab_Run ab_mt 10 49 ls (ab_fv 1 (w.2 a) :: st) w := E_get rfl h
theorem e_10_49 {ls : ab_L} {w : ab_W} {x : Int32} : ab_Run ab_mt 10 49 ls [.int x] w = some (.inl (some (.int x)), w) := E_reti rfl
theorem rv_10 {σ : ab_S} {t : Nat} : ab_recv ab_mt 10 [.ref t] σ = ab_isO 0 (σ t) := rfl
theorem x_10_1 {ls : ab_L} {rest : List Value} {E : Nat} {w : ab_W} : ab_aft 36 10 1 ls rest (some (.inr E, w)) = some (.inr E, w) := ab_aft_x rfl rfl (by unfold ab_hand; rfl)
theorem x_10_39 {ls : ab_L} {rest : List Value} {E : Nat} {w : ab_W} : ab_aft 48 10 39 ls rest (some (.inr E, w)) = some (.inr E, w) := ab_aft_x rfl rfl (by unfold ab_hand; rfl)
theorem e_11_0 {ls : ab_L} {st : List Value} {w : ab_W} (h : ab_isI (ls 1) = true) : ab_Run ab_mt 11 0 ls st w = ab_Run ab_mt 11 1 ls (ab_gv (ls 1) :: st) w := E_loadi (n := 1) rfl h
theorem e_11_1 {ls : ab_L} {st : List Value} {w : ab_W} : ab_Run ab_mt 11 1 ls st w = ab_Run ab_mt 11 2 ls (.int (nI 2) :: st) w := E_push (n := 1) rfl
theorem e_11_2 {ls : ab_L} {st : List Value} {w : ab_W} {v0 v1 : Value} (h1 : ab_recv ab_mt 33 [v0, v1] w.2 = true) (h8 : ab_w8 st = true) : ab_Run ab_mt 11 2 ls (v1 :: v0 :: st) w = ab_aft 33 11 2 ls st (ab_Cl 33 [v0, v1] w) := E_call2 rfl h1 h8
theorem e_11_5 {ls : ab_L} {st : List Value} {w : ab_W} (h : ab_isR (ls 0) = true) : ab_Run ab_mt 11 5 ls st w = ab_Run ab_mt 11 6 ls (ab_gv (ls 0) :: st) w := E_loadr (n := 1) rfl h
theorem e_11_6 {ls : ab_L} {st : List Value} {w : ab_W} {a : Nat} (h : ab_isF 0 4 (w.2 a) = true) : ab_Run ab_mt 11 6 ls (.ref a :: st) w = ab_Run ab_mt 11 9 ls (ab_fv 4 (w.2 a) :: st) w := E_get rfl h
theorem e_11_9 {ls : ab_L} {st : List Value} {w : ab_W} (h : ab_isI (ls 1) = true) : ab_Run ab_mt 11 9 ls st w = ab_Run ab_mt 11 10 ls (ab_gv (ls 1) :: st) w := E_loadi (n := 1) rfl h
theorem e_11_10 {ls : ab_L} {st : List Value} {w : ab_W} {a : Nat} {i : Int32} (h : ab_inQ i (w.2 a) = true) : ab_Run ab_mt 11 10 ls (.int i :: .ref a :: st) w = ab_Run ab_mt 11 11 ls (.ref (ab_aQ i.toNatClampNeg (w.2 a)) :: st) w := E_aald rfl h
theorem e_11_11 {ls : ab_L} {st : List Value} {w : ab_W} (h : ab_isR (ls 0) = true) : ab_Run ab_mt 11 11 ls st w = ab_Run ab_mt 11 12 ls (ab_gv (ls 0) :: st) w := E_loadr (n := 1) rfl h
theorem e_11_12 {ls : ab_L} {st : List Value} {w : ab_W} {a : Nat} (h : ab_isF 0 1 (w.2 a) = true) : ab_Run ab_mt 11 12 ls (.ref a :: st) w = ab_Run ab_mt 11 15 ls (ab_fv 1 (w.2 a) :: st) w := E_get rfl h
theorem e_11_15 {ls : ab_L} {st : List Value} {w : ab_W} {v0 v1 : Value} (h1 : ab_recv ab_mt 73 [v0, v1] w.2 = true) (h8 : ab_w8 st = true) : ab_Run ab_mt 11 15 ls (v1 :: v0 :: st) w = ab_aft 73 11 15 ls st (ab_Cl 73 [v0, v1] w) := E_call2 rfl h1 h8
theorem e_11_18 {ls : ab_L} {st : List Value} {w : ab_W} (h : ab_isR (ls 0) = true) : ab_Run ab_mt 11 18 ls st w = ab_Run ab_mt 11 19 ls (ab_gv (ls 0) :: st) w := E_loadr (n := 1) rfl h
theorem e_11_19 {ls : ab_L} {st : List Value} {w : ab_W} {x : Nat} : ab_Run ab_mt 11 19 ls (.ref x :: st) w = ab_Run ab_mt 11 20 ls (.ref x :: .ref x :: st) w := E_dup_r rfl
theorem e_11_20 {ls : ab_L} {st : List Value} {w : ab_W} {a : Nat} (h : ab_isF 0 5 (w.2 a) = true) : ab_Run ab_mt 11 20 ls (.ref a :: st) w = ab_Run ab_mt 11 23 ls (ab_fv 5 (w.2 a) :: st) w := E_get rfl h
theorem e_11_23 {ls : ab_L} {st : List Value} {w : ab_W} : ab_Run ab_mt 11 23 ls st w = ab_Run ab_mt 11 24 ls (.int (nI 1) :: st) w := E_push (n := 1) rfl
theorem e_11_24 {ls : ab_L} {st : List Value} {w : ab_W} (h : ab_isI (ls 1) = true) : ab_Run ab_mt 11 24 ls st w = ab_Run ab_mt 11 25 ls (ab_gv (ls 1) :: st) w := E_loadi (n := 1) rfl h
theorem e_11_25 {ls : ab_L} {st : List Value} {w : ab_W} {x y : Int32} : ab_Run ab_mt 11 25 ls (.int y :: .int x :: st) w = ab_Run ab_mt 11 26 ls (.int (x <<< (y &&& 31)) :: st) w := E_ib (f := fun x y => x <<< (y &&& 31)) rfl
theorem e_11_26 {ls : ab_L} {st : List Value} {w : ab_W} {x y : Int32} : ab_Run ab_mt 11 26 ls (.int y :: .int x :: st) w = ab_Run ab_mt 11 27 ls (.int (x ||| y) :: st) w := E_ib (f := fun x y => x ||| y) rfl
theorem e_11_27 {ls : ab_L} {st : List Value} {w : ab_W} {a : Nat} {x : Int32} (h : ab_isF 0 5 (w.2 a) = true) : ab_Run ab_mt 11 27 ls (.int x :: .ref a :: st) w = ab_Run ab_mt 11 30 ls st (w.1, ab_up w.2 a (ab_sf 5 (.int x) (w.2 a))) := E_put rfl h rfl
theorem e_11_30 {ls : ab_L} {st : List Value} {w : ab_W} (h : ab_isR (ls 0) = true) : ab_Run ab_mt 11 30 ls st w = ab_Run ab_mt 11 31 ls (ab_gv (ls 0) :: st) w := E_loadr (n := 1) rfl h
theorem e_11_31 {ls : ab_L} {st : List Value} {w : ab_W} {a : Nat} (h : ab_isF 0 1 (w.2 a) = true) : ab_Run ab_mt 11 31 ls (.ref a :: st) w = ab_Run ab_mt 11 34 ls (ab_fv 1 (w.2 a) :: st) w := E_get rfl h
theorem e_11_34 {ls : ab_L} {st : List Value} {w : ab_W} {a : Nat} (h : ab_isF 2 0 (w.2 a) = true) : ab_Run ab_mt 11 34 ls (.ref a :: st) w = ab_Run ab_mt 11 37 ls (ab_fv 0 (w.2 a) :: st) w := E_get rfl h
theorem e_11_37 {ls : ab_L} {st : List Value} {w : ab_W} {a : Nat} (h : ab_isF 3 3 (w.2 a) = true) : ab_Run ab_mt 11 37 ls (.ref a :: st) w = ab_Run ab_mt 11 40 ls (ab_fv 3 (w.2 a) :: st) w := E_get rfl h
theorem e_11_40 {ls : ab_L} {w : ab_W} {x : Int32} : ab_Run ab_mt 11 40 ls [.int x] w = some (.inl (some (.int x)), w) := E_reti rfl
theorem rv_11 {σ : ab_S} {t : Nat} {x0 : Int32} : ab_recv ab_mt 11 [.ref t, .int x0] σ = ab_isO 0 (σ t) := rfl
theorem x_11_2 {ls : ab_L} {rest : List Value} {E : Nat} {w : ab_W} : ab_aft 33 11 2 ls rest (some (.inr E, w)) = some (.inr E, w) := ab_aft_x rfl rfl (by unfold ab_hand; rfl)
theorem e_12_0 {ls : ab_L} {st : List Value} {w : ab_W} (h : ab_isI (ls 1) = true) : ab_Run ab_mt 12 0 ls st w = ab_Run ab_mt 12 1 ls (ab_gv (ls 1) :: st) w := E_loadi (n := 1) rfl h
theorem e_12_1 {ls : ab_L} {st : List Value} {w : ab_W} : ab_Run ab_mt 12 1 ls st w = ab_Run ab_mt 12 2 ls (.int (nI 2) :: st) w := E_push (n := 1) rfl
theorem e_12_2 {ls : ab_L} {st : List Value} {w : ab_W} {v0 v1 : Value} (h1 : ab_recv ab_mt 33 [v0, v1] w.2 = true) (h8 : ab_w8 st = true) : ab_Run ab_mt 12 2 ls (v1 :: v0 :: st) w = ab_aft 33 12 2 ls st (ab_Cl 33 [v0, v1] w) := E_call2 rfl h1 h8
theorem e_12_5 {ls : ab_L} {st : List Value} {w : ab_W} (h : ab_isR (ls 0) = true) : ab_Run ab_mt 12 5 ls st w = ab_Run ab_mt 12 6 ls (ab_gv (ls 0) :: st) w := E_loadr (n := 1) rfl h
theorem e_12_6 {ls : ab_L} {st : List Value} {w : ab_W} {v0 : Value} (h1 : ab_recv ab_mt 36 [v0] w.2 = true) (h8 : ab_w8 st = true) : ab_Run ab_mt 12 6 ls (v0 :: st) w = ab_aft 36 12 6 ls st (ab_Cl 36 [v0] w) := E_call1 rfl h1 h8
theorem e_12_9 {ls : ab_L} {st : List Value} {w : ab_W} (h : ab_isR (ls 0) = true) : ab_Run ab_mt 12 9 ls st w = ab_Run ab_mt 12 10 ls (ab_gv (ls 0) :: st) w := E_loadr (n := 1) rfl h
theorem e_12_10 {ls : ab_L} {st : List Value} {w : ab_W} {a : Nat} (h : ab_isF 0 5 (w.2 a) = true) : ab_Run ab_mt 12 10 ls (.ref a :: st) w = ab_Run ab_mt 12 13 ls (ab_fv 5 (w.2 a) :: st) w := E_get rfl h
theorem e_12_13 {ls : ab_L} {st : List Value} {w : ab_W} (h : ab_isI (ls 1) = true) : ab_Run ab_mt 12 13 ls st w = ab_Run ab_mt 12 14 ls (ab_gv (ls 1) :: st) w := E_loadi (n := 1) rfl h
theorem e_12_14 {ls : ab_L} {st : List Value} {w : ab_W} {x y : Int32} : ab_Run ab_mt 12 14 ls (.int y :: .int x :: st) w = ab_Run ab_mt 12 15 ls (.int (x >>> (y &&& 31)) :: st) w := E_ib (f := fun x y => x >>> (y &&& 31)) rfl
theorem e_12_15 {ls : ab_L} {st : List Value} {w : ab_W} : ab_Run ab_mt 12 15 ls st w = ab_Run ab_mt 12 16 ls (.int (nI 1) :: st) w := E_push (n := 1) rfl
theorem e_12_16 {ls : ab_L} {st : List Value} {w : ab_W} {x y : Int32} : ab_Run ab_mt 12 16 ls (.int y :: .int x :: st) w = ab_Run ab_mt 12 17 ls (.int (x &&& y) :: st) w := E_ib (f := fun x y => x &&& y) rfl
theorem e_12_17 {ls : ab_L} {st : List Value} {w : ab_W} {x : Int32} : ab_Run ab_mt 12 17 ls (.int x :: st) w = if x = 0 then ab_Run ab_mt 12 20 ls st w else ab_Run ab_mt 12 30 ls st w := E_if_ne rfl
theorem e_12_20 {ls : ab_L} {w : ab_W} : ab_Run ab_mt 12 20 ls [] w = some (.inr 0, (ab_th w.1, w.2)) := E_thr rfl
theorem e_12_30 {ls : ab_L} {st : List Value} {w : ab_W} (h : ab_isR (ls 0) = true) : ab_Run ab_mt 12 30 ls st w = ab_Run ab_mt 12 31 ls (ab_gv (ls 0) :: st) w := E_loadr (n := 1) rfl h
theorem e_12_31 {ls : ab_L} {st : List Value} {w : ab_W} {a : Nat} (h : ab_isF 0 3 (w.2 a) = true) : ab_Run ab_mt 12 31 ls (.ref a :: st) w = ab_Run ab_mt 12 34 ls (ab_fv 3 (w.2 a) :: st) w := E_get rfl h
theorem e_12_34 {ls : ab_L} {st : List Value} {w : ab_W} (h : ab_isR (ls 0) = true) : ab_Run ab_mt 12 34 ls st w = ab_Run ab_mt 12 35 ls (ab_gv (ls 0) :: st) w := E_loadr (n := 1) rfl h
theorem e_12_35 {ls : ab_L} {st : List Value} {w : ab_W} {a : Nat} (h : ab_isF 0 1 (w.2 a) = true) : ab_Run ab_mt 12 35 ls (.ref a :: st) w = ab_Run ab_mt 12 38 ls (ab_fv 1 (w.2 a) :: st) w := E_get rfl h
theorem e_12_38 {ls : ab_L} {st : List Value} {w : ab_W} {v0 v1 : Value} (h1 : ab_recv ab_mt 95 [v0, v1] w.2 = true) (h8 : ab_w8 st = true) : ab_Run ab_mt 12 38 ls (v1 :: v0 :: st) w = ab_aft 95 12 38 ls st (ab_Cl 95 [v0, v1] w) := E_call2 rfl h1 h8
theorem e_12_41 {ls : ab_L} {st : List Value} {w : ab_W} (h : ab_isR (ls 0) = true) : ab_Run ab_mt 12 41 ls st w = ab_Run ab_mt 12 42 ls (ab_gv (ls 0) :: st) w := E_loadr (n := 1) rfl h
theorem e_12_42 {ls : ab_L} {st : List Value} {w : ab_W} {a : Nat} (h : ab_isF 0 1 (w.2 a) = true) : ab_Run ab_mt 12 42 ls (.ref a :: st) w = ab_Run ab_mt 12 45 ls (ab_fv 1 (w.2 a) :: st) w := E_get rfl h
theorem e_12_45 {ls : ab_L} {st : List Value} {w : ab_W} (h : ab_isR (ls 0) = true) : ab_Run ab_mt 12 45 ls st w = ab_Run ab_mt 12 46 ls (ab_gv (ls 0) :: st) w := E_loadr (n := 1) rfl h
theorem e_12_46 {ls : ab_L} {st : List Value} {w : ab_W} {a : Nat} (h : ab_isF 0 4 (w.2 a) = true) : ab_Run ab_mt 12 46 ls (.ref a :: st) w = ab_Run ab_mt 12 49 ls (ab_fv 4 (w.2 a) :: st) w := E_get rfl h
theorem e_12_49 {ls : ab_L} {st : List Value} {w : ab_W} (h : ab_isI (ls 1) = true) : ab_Run ab_mt 12 49 ls st w = ab_Run ab_mt 12 50 ls (ab_gv (ls 1) :: st) w := E_loadi (n := 1) rfl h
theorem e_12_50 {ls : ab_L} {st : List Value} {w : ab_W} {a : Nat} {i : Int32} (h : ab_inQ i (w.2 a) = true) : ab_Run ab_mt 12 50 ls (.int i :: .ref a :: st) w = ab_Run ab_mt 12 51 ls (.ref (ab_aQ i.toNatClampNeg (w.2 a)) :: st) w := E_aald rfl h
theorem e_12_51 {ls : ab_L} {st : List Value} {w : ab_W} {v0 v1 : Value} (h1 : ab_recv ab_mt 73 [v0, v1] w.2 = true) (h8 : ab_w8 st = true) : ab_Run ab_mt 12 51 ls (v1 :: v0 :: st) w = ab_aft 73 12 51 ls st (ab_Cl 73 [v0, v1] w) := E_call2 rfl h1 h8
theorem e_12_54 {ls : ab_L} {st : List Value} {w : ab_W} (h : ab_isR (ls 0) = true) : ab_Run ab_mt 12 54 ls st w = ab_Run ab_mt 12 55 ls (ab_gv (ls 0) :: st) w := E_loadr (n := 1) rfl h
theorem e_12_55 {ls : ab_L} {st : List Value} {w : ab_W} {a : Nat} (h : ab_isF 0 0 (w.2 a) = true) : ab_Run ab_mt 12 55 ls (.ref a :: st) w = ab_Run ab_mt 12 58 ls (ab_fv 0 (w.2 a) :: st) w := E_get rfl h
theorem e_12_58 {ls : ab_L} {st : List Value} {w : ab_W} {v0 : Value} (h1 : ab_recv ab_mt 48 [v0] w.2 = true) (h8 : ab_w8 st = true) : ab_Run ab_mt 12 58 ls (v0 :: st) w = ab_aft 48 12 58 ls st (ab_Cl 48 [v0] w) := E_call1 rfl h1 h8
theorem e_12_61 {ls : ab_L} {st : List Value} {w : ab_W} (h : ab_isR (ls 0) = true) : ab_Run ab_mt 12 61 ls st w = ab_Run ab_mt 12 62 ls (ab_gv (ls 0) :: st) w := E_loadr (n := 1) rfl h
theorem e_12_62 {ls : ab_L} {st : List Value} {w : ab_W} {a : Nat} (h : ab_isF 0 1 (w.2 a) = true) : ab_Run ab_mt 12 62 ls (.ref a :: st) w = ab_Run ab_mt 12 65 ls (ab_fv 1 (w.2 a) :: st) w := E_get rfl h
theorem e_12_65 {ls : ab_L} {st : List Value} {w : ab_W} {a : Nat} (h : ab_isF 2 0 (w.2 a) = true) : ab_Run ab_mt 12 65 ls (.ref a :: st) w = ab_Run ab_mt 12 68 ls (ab_fv 0 (w.2 a) :: st) w := E_get rfl h
theorem e_12_68 {ls : ab_L} {st : List Value} {w : ab_W} {a : Nat} (h : ab_isF 3 3 (w.2 a) = true) : ab_Run ab_mt 12 68 ls (.ref a :: st) w = ab_Run ab_mt 12 71 ls (ab_fv 3 (w.2 a) :: st) w := E_get rfl h
theorem e_12_71 {ls : ab_L} {w : ab_W} {x : Int32} : ab_Run ab_mt 12 71 ls [.int x] w = some (.inl (some (.int x)), w) := E_reti rfl
theorem rv_12 {σ : ab_S} {t : Nat} {x0 : Int32} : ab_recv ab_mt 12 [.ref t, .int x0] σ = ab_isO 0 (σ t) := rfl
theorem x_12_2 {ls : ab_L} {rest : List Value} {E : Nat} {w : ab_W} : ab_aft 33 12 2 ls rest (some (.inr E, w)) = some (.inr E, w) := ab_aft_x rfl rfl (by unfold ab_hand; rfl)
theorem x_12_6 {ls : ab_L} {rest : List Value} {E : Nat} {w : ab_W} : ab_aft 36 12 6 ls rest (some (.inr E, w)) = some (.inr E, w) := ab_aft_x rfl rfl (by unfold ab_hand; rfl)
theorem x_12_58 {ls : ab_L} {rest : List Value} {E : Nat} {w : ab_W} : ab_aft 48 12 58 ls rest (some (.inr E, w)) = some (.inr E, w) := ab_aft_x rfl rfl (by unfold ab_hand; rfl)
theorem e_13_0 {ls : ab_L} {st : List Value} {w : ab_W} (h : ab_isI (ls 1) = true) : ab_Run ab_mt 13 0 ls st w = ab_Run ab_mt 13 1 ls (ab_gv (ls 1) :: st) w := E_loadi (n := 1) rfl h
theorem e_13_1 {ls : ab_L} {st : List Value} {w : ab_W} {x : Int32} : ab_Run ab_mt 13 1 ls (.int x :: st) w = ab_Run ab_mt 13 2 ls (.long x.toInt64 :: st) w := E_i2l rfl
theorem e_13_2 {ls : ab_L} {st : List Value} {w : ab_W} : ab_Run ab_mt 13 2 ls st w = ab_Run ab_mt 13 5 ls (.long (lN 32) :: st) w := E_push (n := 3) rfl
theorem e_13_5 {ls : ab_L} {st : List Value} {w : ab_W} : ab_Run ab_mt 13 5 ls st w = ab_Run ab_mt 13 8 ls (.long (lN 126) :: st) w := E_push (n := 3) rfl
theorem e_13_8 {ls : ab_L} {st : List Value} {w : ab_W} {v0 v1 v2 : Value} (h1 : ab_recv ab_mt 34 [v0, v1, v2] w.2 = true) (h8 : ab_w8 st = true) : ab_Run ab_mt 13 8 ls (v2 :: v1 :: v0 :: st) w = ab_aft 34 13 8 ls st (ab_Cl 34 [v0, v1, v2] w) := E_call3 rfl h1 h8
theorem e_13_11 {ls : ab_L} {st : List Value} {w : ab_W} (h : ab_isR (ls 0) = true) : ab_Run ab_mt 13 11 ls st w = ab_Run ab_mt 13 12 ls (ab_gv (ls 0) :: st) w := E_loadr (n := 1) rfl h
theorem e_13_12 {ls : ab_L} {st : List Value} {w : ab_W} {a : Nat} (h : ab_isF 0 7 (w.2 a) = true) : ab_Run ab_mt 13 12 ls (.ref a :: st) w = ab_Run ab_mt 13 15 ls (ab_fv 7 (w.2 a) :: st) w := E_get rfl h
theorem e_13_15 {ls : ab_L} {st : List Value} {w : ab_W} : ab_Run ab_mt 13 15 ls st w = ab_Run ab_mt 13 17 ls (.int (nI 60) :: st) w := E_push (n := 2) rfl
theorem e_13_17 {ls : ab_L} {st : List Value} {w : ab_W} {x y : Int32} : ab_Run ab_mt 13 17 ls (.int y :: .int x :: st) w = if x < y then ab_Run ab_mt 13 30 ls st w else ab_Run ab_mt 13 20 ls st w := E_ic_lt rfl
theorem e_13_20 {ls : ab_L} {w : ab_W} : ab_Run ab_mt 13 20 ls [] w = some (.inr 0, (ab_th w.1, w.2)) := E_thr rfl
theorem e_13_30 {ls : ab_L} {st : List Value} {w : ab_W} (h : ab_isR (ls 0) = true) : ab_Run ab_mt 13 30 ls st w = ab_Run ab_mt 13 31 ls (ab_gv (ls 0) :: st) w := E_loadr (n := 1) rfl h
theorem e_13_31 {ls : ab_L} {st : List Value} {w : ab_W} {a : Nat} (h : ab_isF 0 6 (w.2 a) = true) : ab_Run ab_mt 13 31 ls (.ref a :: st) w = ab_Run ab_mt 13 34 ls (ab_fv 6 (w.2 a) :: st) w := E_get rfl h
theorem e_13_34 {ls : ab_L} {st : List Value} {w : ab_W} (h : ab_isR (ls 0) = true) : ab_Run ab_mt 13 34 ls st w = ab_Run ab_mt 13 35 ls (ab_gv (ls 0) :: st) w := E_loadr (n := 1) rfl h
theorem e_13_35 {ls : ab_L} {st : List Value} {w : ab_W} {a : Nat} (h : ab_isF 0 7 (w.2 a) = true) : ab_Run ab_mt 13 35 ls (.ref a :: st) w = ab_Run ab_mt 13 38 ls (ab_fv 7 (w.2 a) :: st) w := E_get rfl h
theorem e_13_38 {ls : ab_L} {st : List Value} {w : ab_W} (h : ab_isI (ls 1) = true) : ab_Run ab_mt 13 38 ls st w = ab_Run ab_mt 13 39 ls (ab_gv (ls 1) :: st) w := E_loadi (n := 1) rfl h
theorem e_13_39 {ls : ab_L} {st : List Value} {w : ab_W} {a : Nat} {i x : Int32} (h : ab_inW i (w.2 a) = true) : ab_Run ab_mt 13 39 ls (.int x :: .int i :: .ref a :: st) w = ab_Run ab_mt 13 40 ls st (w.1, ab_up w.2 a (ab_sI i.toNatClampNeg x (w.2 a))) := E_iast rfl h
theorem e_13_40 {ls : ab_L} {st : List Value} {w : ab_W} (h : ab_isR (ls 0) = true) : ab_Run ab_mt 13 40 ls st w = ab_Run ab_mt 13 41 ls (ab_gv (ls 0) :: st) w := E_loadr (n := 1) rfl h
theorem e_13_41 {ls : ab_L} {st : List Value} {w : ab_W} {x : Nat} : ab_Run ab_mt 13 41 ls (.ref x :: st) w = ab_Run ab_mt 13 42 ls (.ref x :: .ref x :: st) w := E_dup_r rfl
theorem e_13_42 {ls : ab_L} {st : List Value} {w : ab_W} {a : Nat} (h : ab_isF 0 7 (w.2 a) = true) : ab_Run ab_mt 13 42 ls (.ref a :: st) w = ab_Run ab_mt 13 45 ls (ab_fv 7 (w.2 a) :: st) w := E_get rfl h
theorem e_13_45 {ls : ab_L} {st : List Value} {w : ab_W} : ab_Run ab_mt 13 45 ls st w = ab_Run ab_mt 13 46 ls (.int (nI 1) :: st) w := E_push (n := 1) rfl
theorem e_13_46 {ls : ab_L} {st : List Value} {w : ab_W} {x y : Int32} : ab_Run ab_mt 13 46 ls (.int y :: .int x :: st) w = ab_Run ab_mt 13 47 ls (.int (x + y) :: st) w := E_ib (f := fun x y => x + y) rfl
theorem e_13_47 {ls : ab_L} {st : List Value} {w : ab_W} {a : Nat} {x : Int32} (h : ab_isF 0 7 (w.2 a) = true) : ab_Run ab_mt 13 47 ls (.int x :: .ref a :: st) w = ab_Run ab_mt 13 50 ls st (w.1, ab_up w.2 a (ab_sf 7 (.int x) (w.2 a))) := E_put rfl h rfl
theorem e_13_50 {ls : ab_L} {st : List Value} {w : ab_W} (h : ab_isR (ls 0) = true) : ab_Run ab_mt 13 50 ls st w = ab_Run ab_mt 13 51 ls (ab_gv (ls 0) :: st) w := E_loadr (n := 1) rfl h
theorem e_13_51 {ls : ab_L} {st : List Value} {w : ab_W} {a : Nat} (h : ab_isF 0 7 (w.2 a) = true) : ab_Run ab_mt 13 51 ls (.ref a :: st) w = ab_Run ab_mt 13 54 ls (ab_fv 7 (w.2 a) :: st) w := E_get rfl h
theorem e_13_54 {ls : ab_L} {w : ab_W} {x : Int32} : ab_Run ab_mt 13 54 ls [.int x] w = some (.inl (some (.int x)), w) := E_reti rfl
theorem rv_13 {σ : ab_S} {t : Nat} {x0 : Int32} : ab_recv ab_mt 13 [.ref t, .int x0] σ = ab_isO 0 (σ t) := rfl
theorem x_13_8 {ls : ab_L} {rest : List Value} {E : Nat} {w : ab_W} : ab_aft 34 13 8 ls rest (some (.inr E, w)) = some (.inr E, w) := ab_aft_x rfl rfl (by unfold ab_hand; rfl)
theorem e_14_0 {ls : ab_L} {st : List Value} {w : ab_W} (h : ab_isR (ls 0) = true) : ab_Run ab_mt 14 0 ls st w = ab_Run ab_mt 14 1 ls (ab_gv (ls 0) :: st) w := E_loadr (n := 1) rfl h
theorem e_14_1 {ls : ab_L} {st : List Value} {w : ab_W} {a : Nat} (h : ab_isF 0 7 (w.2 a) = true) : ab_Run ab_mt 14 1 ls (.ref a :: st) w = ab_Run ab_mt 14 4 ls (ab_fv 7 (w.2 a) :: st) w := E_get rfl h
theorem e_14_4 {ls : ab_L} {st : List Value} {w : ab_W} {x : Int32} : ab_Run ab_mt 14 4 ls (.int x :: st) w = ab_Run ab_mt 14 5 (ab_l1 ls 1 (.int x)) st w := E_stori (n := 1) rfl
theorem e_14_5 {ls : ab_L} {st : List Value} {w : ab_W} (h : ab_isR (ls 0) = true) : ab_Run ab_mt 14 5 ls st w = ab_Run ab_mt 14 6 ls (ab_gv (ls 0) :: st) w := E_loadr (n := 1) rfl h
theorem e_14_6 {ls : ab_L} {st : List Value} {w : ab_W} : ab_Run ab_mt 14 6 ls st w = ab_Run ab_mt 14 7 ls (.int (nI 0) :: st) w := E_push (n := 1) rfl
theorem e_14_7 {ls : ab_L} {st : List Value} {w : ab_W} {a : Nat} {x : Int32} (h : ab_isF 0 7 (w.2 a) = true) : ab_Run ab_mt 14 7 ls (.int x :: .ref a :: st) w = ab_Run ab_mt 14 10 ls st (w.1, ab_up w.2 a (ab_sf 7 (.int x) (w.2 a))) := E_put rfl h rfl
theorem e_14_10 {ls : ab_L} {st : List Value} {w : ab_W} (h : ab_isI (ls 1) = true) : ab_Run ab_mt 14 10 ls st w = ab_Run ab_mt 14 11 ls (ab_gv (ls 1) :: st) w := E_loadi (n := 1) rfl h
theorem e_14_11 {ls : ab_L} {w : ab_W} {x : Int32} : ab_Run ab_mt 14 11 ls [.int x] w = some (.inl (some (.int x)), w) := E_reti rfl
theorem rv_14 {σ : ab_S} {t : Nat} : ab_recv ab_mt 14 [.ref t] σ = ab_isO 0 (σ t) := rfl
theorem e_15_0 {ls : ab_L} {st : List Value} {w : ab_W} (h : ab_isR (ls 0) = true) : ab_Run ab_mt 15 0 ls st w = ab_Run ab_mt 15 1 ls (ab_gv (ls 0) :: st) w := E_loadr (n := 1) rfl h
theorem e_15_1 {ls : ab_L} {st : List Value} {w : ab_W} {a : Nat} (h : ab_isF 0 8 (w.2 a) = true) : ab_Run ab_mt 15 1 ls (.ref a :: st) w = ab_Run ab_mt 15 4 ls (ab_fv 8 (w.2 a) :: st) w := E_get rfl h
theorem e_15_4 {ls : ab_L} {st : List Value} {w : ab_W} (h : ab_isR (ls 0) = true) : ab_Run ab_mt 15 4 ls st w = ab_Run ab_mt 15 5 ls (ab_gv (ls 0) :: st) w := E_loadr (n := 1) rfl h
theorem e_15_5 {ls : ab_L} {st : List Value} {w : ab_W} {a : Nat} (h : ab_isF 0 6 (w.2 a) = true) : ab_Run ab_mt 15 5 ls (.ref a :: st) w = ab_Run ab_mt 15 8 ls (ab_fv 6 (w.2 a) :: st) w := E_get rfl h
theorem e_15_8 {ls : ab_L} {st : List Value} {w : ab_W} (h : ab_isR (ls 0) = true) : ab_Run ab_mt 15 8 ls st w = ab_Run ab_mt 15 9 ls (ab_gv (ls 0) :: st) w := E_loadr (n := 1) rfl h
theorem e_15_9 {ls : ab_L} {st : List Value} {w : ab_W} {a : Nat} (h : ab_isF 0 7 (w.2 a) = true) : ab_Run ab_mt 15 9 ls (.ref a :: st) w = ab_Run ab_mt 15 12 ls (ab_fv 7 (w.2 a) :: st) w := E_get rfl h
theorem e_15_12 {ls : ab_L} {st : List Value} {w : ab_W} {v0 v1 v2 : Value} (h1 : ab_recv ab_mt 99 [v0, v1, v2] w.2 = true) (h8 : ab_w8 st = true) : ab_Run ab_mt 15 12 ls (v2 :: v1 :: v0 :: st) w = ab_aft 99 15 12 ls st (ab_Cl 99 [v0, v1, v2] w) := E_call3 rfl h1 h8
theorem e_15_15 {ls : ab_L} {st : List Value} {w : ab_W} (h : ab_isR (ls 0) = true) : ab_Run ab_mt 15 15 ls st w = ab_Run ab_mt 15 16 ls (ab_gv (ls 0) :: st) w := E_loadr (n := 1) rfl h
theorem e_15_16 {ls : ab_L} {st : List Value} {w : ab_W} {a : Nat} (h : ab_isF 0 8 (w.2 a) = true) : ab_Run ab_mt 15 16 ls (.ref a :: st) w = ab_Run ab_mt 15 19 ls (ab_fv 8 (w.2 a) :: st) w := E_get rfl h
theorem e_15_19 {ls : ab_L} {st : List Value} {w : ab_W} {a : Nat} (h : ab_isF 6 1 (w.2 a) = true) : ab_Run ab_mt 15 19 ls (.ref a :: st) w = ab_Run ab_mt 15 22 ls (ab_fv 1 (w.2 a) :: st) w := E_get rfl h
theorem e_15_22 {ls : ab_L} {w : ab_W} {x : Int32} : ab_Run ab_mt 15 22 ls [.int x] w = some (.inl (some (.int x)), w) := E_reti rfl
theorem rv_15 {σ : ab_S} {t : Nat} : ab_recv ab_mt 15 [.ref t] σ = ab_isO 0 (σ t) := rfl
theorem x_15_12 {ls : ab_L} {rest : List Value} {E : Nat} {w : ab_W} : ab_aft 99 15 12 ls rest (some (.inr E, w)) = some (.inr E, w) := ab_aft_x rfl rfl (by unfold ab_hand; rfl)
theorem e_16_0 {ls : ab_L} {st : List Value} {w : ab_W} (h : ab_isI (ls 1) = true) : ab_Run ab_mt 16 0 ls st w = ab_Run ab_mt 16 1 ls (ab_gv (ls 1) :: st) w := E_loadi (n := 1) rfl h
theorem e_16_1 {ls : ab_L} {st : List Value} {w : ab_W} (h : ab_isR (ls 0) = true) : ab_Run ab_mt 16 1 ls st w = ab_Run ab_mt 16 2 ls (ab_gv (ls 0) :: st) w := E_loadr (n := 1) rfl h
theorem e_16_2 {ls : ab_L} {st : List Value} {w : ab_W} {a : Nat} (h : ab_isF 0 1 (w.2 a) = true) : ab_Run ab_mt 16 2 ls (.ref a :: st) w = ab_Run ab_mt 16 5 ls (ab_fv 1 (w.2 a) :: st) w := E_get rfl h
theorem e_16_5 {ls : ab_L} {st : List Value} {w : ab_W} {a : Nat} (h : ab_isF 2 0 (w.2 a) = true) : ab_Run ab_mt 16 5 ls (.ref a :: st) w = ab_Run ab_mt 16 8 ls (ab_fv 0 (w.2 a) :: st) w := E_get rfl h
theorem e_16_8 {ls : ab_L} {st : List Value} {w : ab_W} {a : Nat} (h : ab_isF 3 3 (w.2 a) = true) : ab_Run ab_mt 16 8 ls (.ref a :: st) w = ab_Run ab_mt 16 11 ls (ab_fv 3 (w.2 a) :: st) w := E_get rfl h
theorem e_16_11 {ls : ab_L} {st : List Value} {w : ab_W} {v0 v1 : Value} (h1 : ab_recv ab_mt 33 [v0, v1] w.2 = true) (h8 : ab_w8 st = true) : ab_Run ab_mt 16 11 ls (v1 :: v0 :: st) w = ab_aft 33 16 11 ls st (ab_Cl 33 [v0, v1] w) := E_call2 rfl h1 h8
theorem e_16_14 {ls : ab_L} {st : List Value} {w : ab_W} (h : ab_isI (ls 2) = true) : ab_Run ab_mt 16 14 ls st w = ab_Run ab_mt 16 15 ls (ab_gv (ls 2) :: st) w := E_loadi (n := 1) rfl h
theorem e_16_15 {ls : ab_L} {st : List Value} {w : ab_W} {x : Int32} : ab_Run ab_mt 16 15 ls (.int x :: st) w = ab_Run ab_mt 16 16 ls (.long x.toInt64 :: st) w := E_i2l rfl
theorem e_16_16 {ls : ab_L} {st : List Value} {w : ab_W} : ab_Run ab_mt 16 16 ls st w = ab_Run ab_mt 16 17 ls (.long (lN 0) :: st) w := E_push (n := 1) rfl
theorem e_16_17 {ls : ab_L} {st : List Value} {w : ab_W} : ab_Run ab_mt 16 17 ls st w = ab_Run ab_mt 16 20 ls (.long (lN 8) :: st) w := E_push (n := 3) rfl
theorem e_16_20 {ls : ab_L} {st : List Value} {w : ab_W} {v0 v1 v2 : Value} (h1 : ab_recv ab_mt 34 [v0, v1, v2] w.2 = true) (h8 : ab_w8 st = true) : ab_Run ab_mt 16 20 ls (v2 :: v1 :: v0 :: st) w = ab_aft 34 16 20 ls st (ab_Cl 34 [v0, v1, v2] w) := E_call3 rfl h1 h8
theorem e_16_23 {ls : ab_L} {st : List Value} {w : ab_W} (h : ab_isI (ls 3) = true) : ab_Run ab_mt 16 23 ls st w = ab_Run ab_mt 16 24 ls (ab_gv (ls 3) :: st) w := E_loadi (n := 1) rfl h
theorem e_16_24 {ls : ab_L} {st : List Value} {w : ab_W} {x : Int32} : ab_Run ab_mt 16 24 ls (.int x :: st) w = ab_Run ab_mt 16 25 ls (.long x.toInt64 :: st) w := E_i2l rfl
theorem e_16_25 {ls : ab_L} {st : List Value} {w : ab_W} : ab_Run ab_mt 16 25 ls st w = ab_Run ab_mt 16 28 ls (.long (lN 50) :: st) w := E_push (n := 3) rfl
theorem e_16_28 {ls : ab_L} {st : List Value} {w : ab_W} : ab_Run ab_mt 16 28 ls st w = ab_Run ab_mt 16 31 ls (.long (lN 200) :: st) w := E_push (n := 3) rfl
theorem e_16_31 {ls : ab_L} {st : List Value} {w : ab_W} {v0 v1 v2 : Value} (h1 : ab_recv ab_mt 34 [v0, v1, v2] w.2 = true) (h8 : ab_w8 st = true) : ab_Run ab_mt 16 31 ls (v2 :: v1 :: v0 :: st) w = ab_aft 34 16 31 ls st (ab_Cl 34 [v0, v1, v2] w) := E_call3 rfl h1 h8
theorem e_16_34 {ls : ab_L} {st : List Value} {w : ab_W} (h : ab_isR (ls 0) = true) : ab_Run ab_mt 16 34 ls st w = ab_Run ab_mt 16 35 ls (ab_gv (ls 0) :: st) w := E_loadr (n := 1) rfl h
theorem e_16_35 {ls : ab_L} {st : List Value} {w : ab_W} {v0 : Value} (h1 : ab_recv ab_mt 36 [v0] w.2 = true) (h8 : ab_w8 st = true) : ab_Run ab_mt 16 35 ls (v0 :: st) w = ab_aft 36 16 35 ls st (ab_Cl 36 [v0] w) := E_call1 rfl h1 h8
theorem e_16_38 {ls : ab_L} {st : List Value} {w : ab_W} (h : ab_isR (ls 0) = true) : ab_Run ab_mt 16 38 ls st w = ab_Run ab_mt 16 39 ls (ab_gv (ls 0) :: st) w := E_loadr (n := 1) rfl h
theorem e_16_39 {ls : ab_L} {st : List Value} {w : ab_W} {a : Nat} (h : ab_isF 0 2 (w.2 a) = true) : ab_Run ab_mt 16 39 ls (.ref a :: st) w = ab_Run ab_mt 16 42 ls (ab_fv 2 (w.2 a) :: st) w := E_get rfl h
theorem e_16_42 {ls : ab_L} {st : List Value} {w : ab_W} (h : ab_isR (ls 0) = true) : ab_Run ab_mt 16 42 ls st w = ab_Run ab_mt 16 43 ls (ab_gv (ls 0) :: st) w := E_loadr (n := 1) rfl h
theorem e_16_43 {ls : ab_L} {st : List Value} {w : ab_W} {a : Nat} (h : ab_isF 0 0 (w.2 a) = true) : ab_Run ab_mt 16 43 ls (.ref a :: st) w = ab_Run ab_mt 16 46 ls (ab_fv 0 (w.2 a) :: st) w := E_get rfl h
theorem e_16_46 {ls : ab_L} {st : List Value} {w : ab_W} (h : ab_isI (ls 1) = true) : ab_Run ab_mt 16 46 ls st w = ab_Run ab_mt 16 47 ls (ab_gv (ls 1) :: st) w := E_loadi (n := 1) rfl h
theorem e_16_47 {ls : ab_L} {st : List Value} {w : ab_W} {v0 v1 : Value} (h1 : ab_recv ab_mt 54 [v0, v1] w.2 = true) (h8 : ab_w8 st = true) : ab_Run ab_mt 16 47 ls (v1 :: v0 :: st) w = ab_aft 54 16 47 ls st (ab_Cl 54 [v0, v1] w) := E_call2 rfl h1 h8
theorem e_16_50 {ls : ab_L} {st : List Value} {w : ab_W} (h : ab_isI (ls 2) = true) : ab_Run ab_mt 16 50 ls st w = ab_Run ab_mt 16 51 ls (ab_gv (ls 2) :: st) w := E_loadi (n := 1) rfl h
theorem e_16_51 {ls : ab_L} {st : List Value} {w : ab_W} (h : ab_isI (ls 3) = true) : ab_Run ab_mt 16 51 ls st w = ab_Run ab_mt 16 52 ls (ab_gv (ls 3) :: st) w := E_loadi (n := 1) rfl h
theorem e_16_52 {ls : ab_L} {st : List Value} {w : ab_W} {v0 v1 v2 v3 : Value} (h1 : ab_recv ab_mt 82 [v0, v1, v2, v3] w.2 = true) (h8 : ab_w8 st = true) : ab_Run ab_mt 16 52 ls (v3 :: v2 :: v1 :: v0 :: st) w = ab_aft 82 16 52 ls st (ab_Cl 82 [v0, v1, v2, v3] w) := E_call4 rfl h1 h8
theorem e_16_55 {ls : ab_L} {st : List Value} {w : ab_W} (h : ab_isR (ls 0) = true) : ab_Run ab_mt 16 55 ls st w = ab_Run ab_mt 16 56 ls (ab_gv (ls 0) :: st) w := E_loadr (n := 1) rfl h
theorem e_16_56 {ls : ab_L} {st : List Value} {w : ab_W} {a : Nat} (h : ab_isF 0 2 (w.2 a) = true) : ab_Run ab_mt 16 56 ls (.ref a :: st) w = ab_Run ab_mt 16 59 ls (ab_fv 2 (w.2 a) :: st) w := E_get rfl h
theorem e_16_59 {ls : ab_L} {st : List Value} {w : ab_W} (h : ab_isR (ls 0) = true) : ab_Run ab_mt 16 59 ls st w = ab_Run ab_mt 16 60 ls (ab_gv (ls 0) :: st) w := E_loadr (n := 1) rfl h
theorem e_16_60 {ls : ab_L} {st : List Value} {w : ab_W} {a : Nat} (h : ab_isF 0 0 (w.2 a) = true) : ab_Run ab_mt 16 60 ls (.ref a :: st) w = ab_Run ab_mt 16 63 ls (ab_fv 0 (w.2 a) :: st) w := E_get rfl h
theorem e_16_63 {ls : ab_L} {st : List Value} {w : ab_W} {v0 v1 : Value} (h1 : ab_recv ab_mt 83 [v0, v1] w.2 = true) (h8 : ab_w8 st = true) : ab_Run ab_mt 16 63 ls (v1 :: v0 :: st) w = ab_aft 83 16 63 ls st (ab_Cl 83 [v0, v1] w) := E_call2 rfl h1 h8
theorem e_16_66 {ls : ab_L} {w : ab_W} {x : Int64} : ab_Run ab_mt 16 66 ls [.long x] w = some (.inl (some (.long x)), w) := E_retl rfl
theorem rv_16 {σ : ab_S} {t : Nat} {x0 : Int32} {x1 : Int32} {x2 : Int32} : ab_recv ab_mt 16 [.ref t, .int x0, .int x1, .int x2] σ = ab_isO 0 (σ t) := rfl
theorem x_16_11 {ls : ab_L} {rest : List Value} {E : Nat} {w : ab_W} : ab_aft 33 16 11 ls rest (some (.inr E, w)) = some (.inr E, w) := ab_aft_x rfl rfl (by unfold ab_hand; rfl)
theorem x_16_20 {ls : ab_L} {rest : List Value} {E : Nat} {w : ab_W} : ab_aft 34 16 20 ls rest (some (.inr E, w)) = some (.inr E, w) := ab_aft_x rfl rfl (by unfold ab_hand; rfl)
theorem x_16_31 {ls : ab_L} {rest : List Value} {E : Nat} {w : ab_W} : ab_aft 34 16 31 ls rest (some (.inr E, w)) = some (.inr E, w) := ab_aft_x rfl rfl (by unfold ab_hand; rfl)
theorem x_16_35 {ls : ab_L} {rest : List Value} {E : Nat} {w : ab_W} : ab_aft 36 16 35 ls rest (some (.inr E, w)) = some (.inr E, w) := ab_aft_x rfl rfl (by unfold ab_hand; rfl)
theorem e_17_0 {ls : ab_L} {st : List Value} {w : ab_W} (h : ab_isI (ls 1) = true) : ab_Run ab_mt 17 0 ls st w = ab_Run ab_mt 17 1 ls (ab_gv (ls 1) :: st) w := E_loadi (n := 1) rfl h
theorem e_17_1 {ls : ab_L} {st : List Value} {w : ab_W} {x : Int32} : ab_Run ab_mt 17 1 ls (.int x :: st) w = ab_Run ab_mt 17 2 ls (.long x.toInt64 :: st) w := E_i2l rfl
theorem e_17_2 {ls : ab_L} {st : List Value} {w : ab_W} : ab_Run ab_mt 17 2 ls st w = ab_Run ab_mt 17 3 ls (.long (lN 1) :: st) w := E_push (n := 1) rfl
theorem e_17_3 {ls : ab_L} {st : List Value} {w : ab_W} : ab_Run ab_mt 17 3 ls st w = ab_Run ab_mt 17 6 ls (.long (lN 60000) :: st) w := E_push (n := 3) rfl
theorem e_17_6 {ls : ab_L} {st : List Value} {w : ab_W} {v0 v1 v2 : Value} (h1 : ab_recv ab_mt 34 [v0, v1, v2] w.2 = true) (h8 : ab_w8 st = true) : ab_Run ab_mt 17 6 ls (v2 :: v1 :: v0 :: st) w = ab_aft 34 17 6 ls st (ab_Cl 34 [v0, v1, v2] w) := E_call3 rfl h1 h8
theorem e_17_9 {ls : ab_L} {st : List Value} {w : ab_W} (h : ab_isR (ls 0) = true) : ab_Run ab_mt 17 9 ls st w = ab_Run ab_mt 17 10 ls (ab_gv (ls 0) :: st) w := E_loadr (n := 1) rfl h
theorem e_17_10 {ls : ab_L} {st : List Value} {w : ab_W} {v0 : Value} (h1 : ab_recv ab_mt 37 [v0] w.2 = true) (h8 : ab_w8 st = true) : ab_Run ab_mt 17 10 ls (v0 :: st) w = ab_aft 37 17 10 ls st (ab_Cl 37 [v0] w) := E_call1 rfl h1 h8
theorem e_17_13 {ls : ab_L} {st : List Value} {w : ab_W} (h : ab_isR (ls 0) = true) : ab_Run ab_mt 17 13 ls st w = ab_Run ab_mt 17 14 ls (ab_gv (ls 0) :: st) w := E_loadr (n := 1) rfl h
theorem e_17_14 {ls : ab_L} {st : List Value} {w : ab_W} {a : Nat} (h : ab_isF 0 2 (w.2 a) = true) : ab_Run ab_mt 17 14 ls (.ref a :: st) w = ab_Run ab_mt 17 17 ls (ab_fv 2 (w.2 a) :: st) w := E_get rfl h
theorem e_17_17 {ls : ab_L} {st : List Value} {w : ab_W} (h : ab_isR (ls 0) = true) : ab_Run ab_mt 17 17 ls st w = ab_Run ab_mt 17 18 ls (ab_gv (ls 0) :: st) w := E_loadr (n := 1) rfl h
theorem e_17_18 {ls : ab_L} {st : List Value} {w : ab_W} {a : Nat} (h : ab_isF 0 0 (w.2 a) = true) : ab_Run ab_mt 17 18 ls (.ref a :: st) w = ab_Run ab_mt 17 21 ls (ab_fv 0 (w.2 a) :: st) w := E_get rfl h
theorem e_17_21 {ls : ab_L} {st : List Value} {w : ab_W} (h : ab_isI (ls 1) = true) : ab_Run ab_mt 17 21 ls st w = ab_Run ab_mt 17 22 ls (ab_gv (ls 1) :: st) w := E_loadi (n := 1) rfl h
theorem e_17_22 {ls : ab_L} {st : List Value} {w : ab_W} {x : Int32} : ab_Run ab_mt 17 22 ls (.int x :: st) w = ab_Run ab_mt 17 23 ls (.long x.toInt64 :: st) w := E_i2l rfl
theorem e_17_23 {ls : ab_L} {st : List Value} {w : ab_W} : ab_Run ab_mt 17 23 ls st w = ab_Run ab_mt 17 26 ls (.long (lN 1000) :: st) w := E_push (n := 3) rfl
theorem e_17_26 {ls : ab_L} {st : List Value} {w : ab_W} {x y : Int64} : ab_Run ab_mt 17 26 ls (.long y :: .long x :: st) w = ab_Run ab_mt 17 27 ls (.long (x * y) :: st) w := E_lb (f := fun x y => x * y) rfl
theorem e_17_27 {ls : ab_L} {st : List Value} {w : ab_W} {v0 v1 v2 : Value} (h1 : ab_recv ab_mt 89 [v0, v1, v2] w.2 = true) (h8 : ab_w8 st = true) : ab_Run ab_mt 17 27 ls (v2 :: v1 :: v0 :: st) w = ab_aft 89 17 27 ls st (ab_Cl 89 [v0, v1, v2] w) := E_call3 rfl h1 h8
theorem e_17_30 {ls : ab_L} {w : ab_W} {x : Int32} : ab_Run ab_mt 17 30 ls [.int x] w = some (.inl (some (.int x)), w) := E_reti rfl
theorem rv_17 {σ : ab_S} {t : Nat} {x0 : Int32} : ab_recv ab_mt 17 [.ref t, .int x0] σ = ab_isO 0 (σ t) := rfl
theorem x_17_6 {ls : ab_L} {rest : List Value} {E : Nat} {w : ab_W} : ab_aft 34 17 6 ls rest (some (.inr E, w)) = some (.inr E, w) := ab_aft_x rfl rfl (by unfold ab_hand; rfl)
theorem x_17_10 {ls : ab_L} {rest : List Value} {E : Nat} {w : ab_W} : ab_aft 37 17 10 ls rest (some (.inr E, w)) = some (.inr E, w) := ab_aft_x rfl rfl (by unfold ab_hand; rfl)
theorem x_17_27 {ls : ab_L} {rest : List Value} {E : Nat} {w : ab_W} : ab_aft 89 17 27 ls rest (some (.inr E, w)) = some (.inr E, w) := ab_aft_x rfl rfl (by unfold ab_hand; rfl)
theorem e_18_0 {ls : ab_L} {st : List Value} {w : ab_W} (h : ab_isR (ls 0) = true) : ab_Run ab_mt 18 0 ls st w = ab_Run ab_mt 18 1 ls (ab_gv (ls 0) :: st) w := E_loadr (n := 1) rfl h
theorem e_18_1 {ls : ab_L} {st : List Value} {w : ab_W} {v0 : Value} (h1 : ab_recv ab_mt 37 [v0] w.2 = true) (h8 : ab_w8 st = true) : ab_Run ab_mt 18 1 ls (v0 :: st) w = ab_aft 37 18 1 ls st (ab_Cl 37 [v0] w) := E_call1 rfl h1 h8
theorem e_18_4 {ls : ab_L} {st : List Value} {w : ab_W} (h : ab_isR (ls 0) = true) : ab_Run ab_mt 18 4 ls st w = ab_Run ab_mt 18 5 ls (ab_gv (ls 0) :: st) w := E_loadr (n := 1) rfl h
theorem e_18_5 {ls : ab_L} {st : List Value} {w : ab_W} {a : Nat} (h : ab_isF 0 2 (w.2 a) = true) : ab_Run ab_mt 18 5 ls (.ref a :: st) w = ab_Run ab_mt 18 8 ls (ab_fv 2 (w.2 a) :: st) w := E_get rfl h
theorem e_18_8 {ls : ab_L} {st : List Value} {w : ab_W} : ab_Run ab_mt 18 8 ls st w = ab_Run ab_mt 18 9 ls (.int (nI 0) :: st) w := E_push (n := 1) rfl
theorem e_18_9 {ls : ab_L} {st : List Value} {w : ab_W} {a : Nat} {x : Int32} (h : ab_isF 4 6 (w.2 a) = true) (h2 : ab_fit 2 (.int x) = true) : ab_Run ab_mt 18 9 ls (.int x :: .ref a :: st) w = ab_Run ab_mt 18 12 ls st (w.1, ab_up w.2 a (ab_sf 6 (.int x) (w.2 a))) := E_put rfl h h2
theorem e_18_12 {ls : ab_L} {st : List Value} {w : ab_W} (h : ab_isR (ls 0) = true) : ab_Run ab_mt 18 12 ls st w = ab_Run ab_mt 18 13 ls (ab_gv (ls 0) :: st) w := E_loadr (n := 1) rfl h
theorem e_18_13 {ls : ab_L} {st : List Value} {w : ab_W} {a : Nat} (h : ab_isF 0 2 (w.2 a) = true) : ab_Run ab_mt 18 13 ls (.ref a :: st) w = ab_Run ab_mt 18 16 ls (ab_fv 2 (w.2 a) :: st) w := E_get rfl h
theorem e_18_16 {ls : ab_L} {st : List Value} {w : ab_W} {a : Nat} (h : ab_isF 4 7 (w.2 a) = true) : ab_Run ab_mt 18 16 ls (.ref a :: st) w = ab_Run ab_mt 18 19 ls (ab_fv 7 (w.2 a) :: st) w := E_get rfl h
theorem e_18_19 {ls : ab_L} {w : ab_W} {x : Int64} : ab_Run ab_mt 18 19 ls [.long x] w = some (.inl (some (.long x)), w) := E_retl rfl
theorem rv_18 {σ : ab_S} {t : Nat} : ab_recv ab_mt 18 [.ref t] σ = ab_isO 0 (σ t) := rfl
theorem x_18_1 {ls : ab_L} {rest : List Value} {E : Nat} {w : ab_W} : ab_aft 37 18 1 ls rest (some (.inr E, w)) = some (.inr E, w) := ab_aft_x rfl rfl (by unfold ab_hand; rfl)
theorem e_19_0 {ls : ab_L} {st : List Value} {w : ab_W} (h : ab_isI (ls 1) = true) : ab_Run ab_mt 19 0 ls st w = ab_Run ab_mt 19 1 ls (ab_gv (ls 1) :: st) w := E_loadi (n := 1) rfl h
theorem e_19_1 {ls : ab_L} {st : List Value} {w : ab_W} {x : Int32} : ab_Run ab_mt 19 1 ls (.int x :: st) w = ab_Run ab_mt 19 2 ls (.long x.toInt64 :: st) w := E_i2l rfl
theorem e_19_2 {ls : ab_L} {st : List Value} {w : ab_W} : ab_Run ab_mt 19 2 ls st w = ab_Run ab_mt 19 3 ls (.long (lN 0) :: st) w := E_push (n := 1) rfl
theorem e_19_3 {ls : ab_L} {st : List Value} {w : ab_W} : ab_Run ab_mt 19 3 ls st w = ab_Run ab_mt 19 6 ls (.long (lN 6) :: st) w := E_push (n := 3) rfl
theorem e_19_6 {ls : ab_L} {st : List Value} {w : ab_W} {v0 v1 v2 : Value} (h1 : ab_recv ab_mt 34 [v0, v1, v2] w.2 = true) (h8 : ab_w8 st = true) : ab_Run ab_mt 19 6 ls (v2 :: v1 :: v0 :: st) w = ab_aft 34 19 6 ls st (ab_Cl 34 [v0, v1, v2] w) := E_call3 rfl h1 h8
theorem e_19_9 {ls : ab_L} {st : List Value} {w : ab_W} (h : ab_isR (ls 0) = true) : ab_Run ab_mt 19 9 ls st w = ab_Run ab_mt 19 10 ls (ab_gv (ls 0) :: st) w := E_loadr (n := 1) rfl h
theorem e_19_10 {ls : ab_L} {st : List Value} {w : ab_W} {a : Nat} (h : ab_isF 0 2 (w.2 a) = true) : ab_Run ab_mt 19 10 ls (.ref a :: st) w = ab_Run ab_mt 19 13 ls (ab_fv 2 (w.2 a) :: st) w := E_get rfl h
theorem e_19_13 {ls : ab_L} {st : List Value} {w : ab_W} {a : Nat} (h : ab_isF 4 6 (w.2 a) = true) : ab_Run ab_mt 19 13 ls (.ref a :: st) w = ab_Run ab_mt 19 16 ls (ab_fv 6 (w.2 a) :: st) w := E_get rfl h
theorem e_19_16 {ls : ab_L} {st : List Value} {w : ab_W} {x : Int32} : ab_Run ab_mt 19 16 ls (.int x :: st) w = if x = 0 then ab_Run ab_mt 19 19 ls st w else ab_Run ab_mt 19 23 ls st w := E_if_ne rfl
theorem e_19_19 {ls : ab_L} {st : List Value} {w : ab_W} : ab_Run ab_mt 19 19 ls st w = ab_Run ab_mt 19 22 ls (.long (-1) :: st) w := E_push (n := 3) rfl
theorem e_19_22 {ls : ab_L} {w : ab_W} {x : Int64} : ab_Run ab_mt 19 22 ls [.long x] w = some (.inl (some (.long x)), w) := E_retl rfl
theorem e_19_23 {ls : ab_L} {st : List Value} {w : ab_W} (h : ab_isI (ls 1) = true) : ab_Run ab_mt 19 23 ls st w = ab_Run ab_mt 19 24 ls (ab_gv (ls 1) :: st) w := E_loadi (n := 1) rfl h
theorem e_19_24 {ls : ab_L} {st : List Value} {w : ab_W} {x : Int32} : ab_Run ab_mt 19 24 ls (.int x :: st) w = if x.toInt < 0 ∨ 5 < x.toInt then ab_Run ab_mt 19 126 ls st w else ab_Run ab_mt 19 (([64, 72, 84, 96, 108, 117] : List Nat).getD (x.toInt - 0).toNat 0) ls st w := E_swi rfl (by decide)
theorem e_19_64 {ls : ab_L} {st : List Value} {w : ab_W} (h : ab_isR (ls 0) = true) : ab_Run ab_mt 19 64 ls st w = ab_Run ab_mt 19 65 ls (ab_gv (ls 0) :: st) w := E_loadr (n := 1) rfl h
theorem e_19_65 {ls : ab_L} {st : List Value} {w : ab_W} {a : Nat} (h : ab_isF 0 2 (w.2 a) = true) : ab_Run ab_mt 19 65 ls (.ref a :: st) w = ab_Run ab_mt 19 68 ls (ab_fv 2 (w.2 a) :: st) w := E_get rfl h
theorem e_19_68 {ls : ab_L} {st : List Value} {w : ab_W} {a : Nat} (h : ab_isF 4 7 (w.2 a) = true) : ab_Run ab_mt 19 68 ls (.ref a :: st) w = ab_Run ab_mt 19 71 ls (ab_fv 7 (w.2 a) :: st) w := E_get rfl h
theorem e_19_71 {ls : ab_L} {w : ab_W} {x : Int64} : ab_Run ab_mt 19 71 ls [.long x] w = some (.inl (some (.long x)), w) := E_retl rfl
theorem e_19_72 {ls : ab_L} {st : List Value} {w : ab_W} (h : ab_isR (ls 0) = true) : ab_Run ab_mt 19 72 ls st w = ab_Run ab_mt 19 73 ls (ab_gv (ls 0) :: st) w := E_loadr (n := 1) rfl h
theorem e_19_73 {ls : ab_L} {st : List Value} {w : ab_W} {a : Nat} (h : ab_isF 0 2 (w.2 a) = true) : ab_Run ab_mt 19 73 ls (.ref a :: st) w = ab_Run ab_mt 19 76 ls (ab_fv 2 (w.2 a) :: st) w := E_get rfl h
theorem e_19_76 {ls : ab_L} {st : List Value} {w : ab_W} (h : ab_isR (ls 0) = true) : ab_Run ab_mt 19 76 ls st w = ab_Run ab_mt 19 77 ls (ab_gv (ls 0) :: st) w := E_loadr (n := 1) rfl h
theorem e_19_77 {ls : ab_L} {st : List Value} {w : ab_W} {a : Nat} (h : ab_isF 0 0 (w.2 a) = true) : ab_Run ab_mt 19 77 ls (.ref a :: st) w = ab_Run ab_mt 19 80 ls (ab_fv 0 (w.2 a) :: st) w := E_get rfl h
theorem e_19_80 {ls : ab_L} {st : List Value} {w : ab_W} {v0 v1 : Value} (h1 : ab_recv ab_mt 83 [v0, v1] w.2 = true) (h8 : ab_w8 st = true) : ab_Run ab_mt 19 80 ls (v1 :: v0 :: st) w = ab_aft 83 19 80 ls st (ab_Cl 83 [v0, v1] w) := E_call2 rfl h1 h8
theorem e_19_83 {ls : ab_L} {w : ab_W} {x : Int64} : ab_Run ab_mt 19 83 ls [.long x] w = some (.inl (some (.long x)), w) := E_retl rfl
theorem e_19_84 {ls : ab_L} {st : List Value} {w : ab_W} (h : ab_isR (ls 0) = true) : ab_Run ab_mt 19 84 ls st w = ab_Run ab_mt 19 85 ls (ab_gv (ls 0) :: st) w := E_loadr (n := 1) rfl h
theorem e_19_85 {ls : ab_L} {st : List Value} {w : ab_W} {a : Nat} (h : ab_isF 0 2 (w.2 a) = true) : ab_Run ab_mt 19 85 ls (.ref a :: st) w = ab_Run ab_mt 19 88 ls (ab_fv 2 (w.2 a) :: st) w := E_get rfl h
theorem e_19_88 {ls : ab_L} {st : List Value} {w : ab_W} (h : ab_isR (ls 0) = true) : ab_Run ab_mt 19 88 ls st w = ab_Run ab_mt 19 89 ls (ab_gv (ls 0) :: st) w := E_loadr (n := 1) rfl h
theorem e_19_89 {ls : ab_L} {st : List Value} {w : ab_W} {a : Nat} (h : ab_isF 0 0 (w.2 a) = true) : ab_Run ab_mt 19 89 ls (.ref a :: st) w = ab_Run ab_mt 19 92 ls (ab_fv 0 (w.2 a) :: st) w := E_get rfl h
theorem e_19_92 {ls : ab_L} {st : List Value} {w : ab_W} {v0 v1 : Value} (h1 : ab_recv ab_mt 85 [v0, v1] w.2 = true) (h8 : ab_w8 st = true) : ab_Run ab_mt 19 92 ls (v1 :: v0 :: st) w = ab_aft 85 19 92 ls st (ab_Cl 85 [v0, v1] w) := E_call2 rfl h1 h8
theorem e_19_95 {ls : ab_L} {w : ab_W} {x : Int64} : ab_Run ab_mt 19 95 ls [.long x] w = some (.inl (some (.long x)), w) := E_retl rfl
theorem e_19_96 {ls : ab_L} {st : List Value} {w : ab_W} (h : ab_isR (ls 0) = true) : ab_Run ab_mt 19 96 ls st w = ab_Run ab_mt 19 97 ls (ab_gv (ls 0) :: st) w := E_loadr (n := 1) rfl h
theorem e_19_97 {ls : ab_L} {st : List Value} {w : ab_W} {a : Nat} (h : ab_isF 0 2 (w.2 a) = true) : ab_Run ab_mt 19 97 ls (.ref a :: st) w = ab_Run ab_mt 19 100 ls (ab_fv 2 (w.2 a) :: st) w := E_get rfl h
theorem e_19_100 {ls : ab_L} {st : List Value} {w : ab_W} (h : ab_isR (ls 0) = true) : ab_Run ab_mt 19 100 ls st w = ab_Run ab_mt 19 101 ls (ab_gv (ls 0) :: st) w := E_loadr (n := 1) rfl h
theorem e_19_101 {ls : ab_L} {st : List Value} {w : ab_W} {a : Nat} (h : ab_isF 0 0 (w.2 a) = true) : ab_Run ab_mt 19 101 ls (.ref a :: st) w = ab_Run ab_mt 19 104 ls (ab_fv 0 (w.2 a) :: st) w := E_get rfl h
theorem e_19_104 {ls : ab_L} {st : List Value} {w : ab_W} {v0 v1 : Value} (h1 : ab_recv ab_mt 88 [v0, v1] w.2 = true) (h8 : ab_w8 st = true) : ab_Run ab_mt 19 104 ls (v1 :: v0 :: st) w = ab_aft 88 19 104 ls st (ab_Cl 88 [v0, v1] w) := E_call2 rfl h1 h8
theorem e_19_107 {ls : ab_L} {w : ab_W} {x : Int64} : ab_Run ab_mt 19 107 ls [.long x] w = some (.inl (some (.long x)), w) := E_retl rfl
theorem e_19_108 {ls : ab_L} {st : List Value} {w : ab_W} (h : ab_isR (ls 0) = true) : ab_Run ab_mt 19 108 ls st w = ab_Run ab_mt 19 109 ls (ab_gv (ls 0) :: st) w := E_loadr (n := 1) rfl h
theorem e_19_109 {ls : ab_L} {st : List Value} {w : ab_W} {a : Nat} (h : ab_isF 0 2 (w.2 a) = true) : ab_Run ab_mt 19 109 ls (.ref a :: st) w = ab_Run ab_mt 19 112 ls (ab_fv 2 (w.2 a) :: st) w := E_get rfl h
theorem e_19_112 {ls : ab_L} {st : List Value} {w : ab_W} {a : Nat} (h : ab_isF 4 8 (w.2 a) = true) : ab_Run ab_mt 19 112 ls (.ref a :: st) w = ab_Run ab_mt 19 115 ls (ab_fv 8 (w.2 a) :: st) w := E_get rfl h
theorem e_19_115 {ls : ab_L} {st : List Value} {w : ab_W} {x : Int32} : ab_Run ab_mt 19 115 ls (.int x :: st) w = ab_Run ab_mt 19 116 ls (.long x.toInt64 :: st) w := E_i2l rfl
theorem e_19_116 {ls : ab_L} {w : ab_W} {x : Int64} : ab_Run ab_mt 19 116 ls [.long x] w = some (.inl (some (.long x)), w) := E_retl rfl
theorem e_19_117 {ls : ab_L} {st : List Value} {w : ab_W} (h : ab_isR (ls 0) = true) : ab_Run ab_mt 19 117 ls st w = ab_Run ab_mt 19 118 ls (ab_gv (ls 0) :: st) w := E_loadr (n := 1) rfl h
theorem e_19_118 {ls : ab_L} {st : List Value} {w : ab_W} {a : Nat} (h : ab_isF 0 2 (w.2 a) = true) : ab_Run ab_mt 19 118 ls (.ref a :: st) w = ab_Run ab_mt 19 121 ls (ab_fv 2 (w.2 a) :: st) w := E_get rfl h
theorem e_19_121 {ls : ab_L} {st : List Value} {w : ab_W} {a : Nat} (h : ab_isF 4 9 (w.2 a) = true) : ab_Run ab_mt 19 121 ls (.ref a :: st) w = ab_Run ab_mt 19 124 ls (ab_fv 9 (w.2 a) :: st) w := E_get rfl h
theorem e_19_124 {ls : ab_L} {st : List Value} {w : ab_W} {x : Int32} : ab_Run ab_mt 19 124 ls (.int x :: st) w = ab_Run ab_mt 19 125 ls (.long x.toInt64 :: st) w := E_i2l rfl
theorem e_19_125 {ls : ab_L} {w : ab_W} {x : Int64} : ab_Run ab_mt 19 125 ls [.long x] w = some (.inl (some (.long x)), w) := E_retl rfl
theorem e_19_126 {ls : ab_L} {st : List Value} {w : ab_W} (h : ab_isR (ls 0) = true) : ab_Run ab_mt 19 126 ls st w = ab_Run ab_mt 19 127 ls (ab_gv (ls 0) :: st) w := E_loadr (n := 1) rfl h
theorem e_19_127 {ls : ab_L} {st : List Value} {w : ab_W} {a : Nat} (h : ab_isF 0 2 (w.2 a) = true) : ab_Run ab_mt 19 127 ls (.ref a :: st) w = ab_Run ab_mt 19 130 ls (ab_fv 2 (w.2 a) :: st) w := E_get rfl h
theorem e_19_130 {ls : ab_L} {st : List Value} {w : ab_W} {a : Nat} (h : ab_isF 4 10 (w.2 a) = true) : ab_Run ab_mt 19 130 ls (.ref a :: st) w = ab_Run ab_mt 19 133 ls (ab_fv 10 (w.2 a) :: st) w := E_get rfl h
theorem e_19_133 {ls : ab_L} {st : List Value} {w : ab_W} {x : Int32} : ab_Run ab_mt 19 133 ls (.int x :: st) w = ab_Run ab_mt 19 134 ls (.long x.toInt64 :: st) w := E_i2l rfl
theorem e_19_134 {ls : ab_L} {w : ab_W} {x : Int64} : ab_Run ab_mt 19 134 ls [.long x] w = some (.inl (some (.long x)), w) := E_retl rfl
theorem rv_19 {σ : ab_S} {t : Nat} {x0 : Int32} : ab_recv ab_mt 19 [.ref t, .int x0] σ = ab_isO 0 (σ t) := rfl
theorem x_19_6 {ls : ab_L} {rest : List Value} {E : Nat} {w : ab_W} : ab_aft 34 19 6 ls rest (some (.inr E, w)) = some (.inr E, w) := ab_aft_x rfl rfl (by unfold ab_hand; rfl)
theorem x_19_104 {ls : ab_L} {rest : List Value} {E : Nat} {w : ab_W} : ab_aft 88 19 104 ls rest (some (.inr E, w)) = some (.inr E, w) := ab_aft_x rfl rfl (by unfold ab_hand; rfl)
theorem e_20_0 {ls : ab_L} {st : List Value} {w : ab_W} (h : ab_isI (ls 1) = true) : ab_Run ab_mt 20 0 ls st w = ab_Run ab_mt 20 1 ls (ab_gv (ls 1) :: st) w := E_loadi (n := 1) rfl h
theorem e_20_1 {ls : ab_L} {st : List Value} {w : ab_W} (h : ab_isR (ls 0) = true) : ab_Run ab_mt 20 1 ls st w = ab_Run ab_mt 20 2 ls (ab_gv (ls 0) :: st) w := E_loadr (n := 1) rfl h
theorem e_20_2 {ls : ab_L} {st : List Value} {w : ab_W} {a : Nat} (h : ab_isF 0 1 (w.2 a) = true) : ab_Run ab_mt 20 2 ls (.ref a :: st) w = ab_Run ab_mt 20 5 ls (ab_fv 1 (w.2 a) :: st) w := E_get rfl h
theorem e_20_5 {ls : ab_L} {st : List Value} {w : ab_W} {a : Nat} (h : ab_isF 2 0 (w.2 a) = true) : ab_Run ab_mt 20 5 ls (.ref a :: st) w = ab_Run ab_mt 20 8 ls (ab_fv 0 (w.2 a) :: st) w := E_get rfl h
theorem e_20_8 {ls : ab_L} {st : List Value} {w : ab_W} {a : Nat} (h : ab_isF 3 3 (w.2 a) = true) : ab_Run ab_mt 20 8 ls (.ref a :: st) w = ab_Run ab_mt 20 11 ls (ab_fv 3 (w.2 a) :: st) w := E_get rfl h
theorem e_20_11 {ls : ab_L} {st : List Value} {w : ab_W} {v0 v1 : Value} (h1 : ab_recv ab_mt 33 [v0, v1] w.2 = true) (h8 : ab_w8 st = true) : ab_Run ab_mt 20 11 ls (v1 :: v0 :: st) w = ab_aft 33 20 11 ls st (ab_Cl 33 [v0, v1] w) := E_call2 rfl h1 h8
theorem e_20_14 {ls : ab_L} {st : List Value} {w : ab_W} (h : ab_isI (ls 2) = true) : ab_Run ab_mt 20 14 ls st w = ab_Run ab_mt 20 15 ls (ab_gv (ls 2) :: st) w := E_loadi (n := 1) rfl h
theorem e_20_15 {ls : ab_L} {st : List Value} {w : ab_W} {x : Int32} : ab_Run ab_mt 20 15 ls (.int x :: st) w = ab_Run ab_mt 20 16 ls (.long x.toInt64 :: st) w := E_i2l rfl
theorem e_20_16 {ls : ab_L} {st : List Value} {w : ab_W} : ab_Run ab_mt 20 16 ls st w = ab_Run ab_mt 20 17 ls (.long (lN 0) :: st) w := E_push (n := 1) rfl
theorem e_20_17 {ls : ab_L} {st : List Value} {w : ab_W} : ab_Run ab_mt 20 17 ls st w = ab_Run ab_mt 20 20 ls (.long (lN 5) :: st) w := E_push (n := 3) rfl
theorem e_20_20 {ls : ab_L} {st : List Value} {w : ab_W} {v0 v1 v2 : Value} (h1 : ab_recv ab_mt 34 [v0, v1, v2] w.2 = true) (h8 : ab_w8 st = true) : ab_Run ab_mt 20 20 ls (v2 :: v1 :: v0 :: st) w = ab_aft 34 20 20 ls st (ab_Cl 34 [v0, v1, v2] w) := E_call3 rfl h1 h8
theorem e_20_23 {ls : ab_L} {st : List Value} {w : ab_W} (h : ab_isI (ls 2) = true) : ab_Run ab_mt 20 23 ls st w = ab_Run ab_mt 20 24 ls (ab_gv (ls 2) :: st) w := E_loadi (n := 1) rfl h
theorem e_20_24 {ls : ab_L} {st : List Value} {w : ab_W} : ab_Run ab_mt 20 24 ls st w = ab_Run ab_mt 20 25 ls (.int (nI 5) :: st) w := E_push (n := 1) rfl
theorem e_20_25 {ls : ab_L} {st : List Value} {w : ab_W} {x y : Int32} : ab_Run ab_mt 20 25 ls (.int y :: .int x :: st) w = if x = y then ab_Run ab_mt 20 28 ls st w else ab_Run ab_mt 20 39 ls st w := E_ic_ne rfl
theorem e_20_28 {ls : ab_L} {st : List Value} {w : ab_W} (h : ab_isR (ls 0) = true) : ab_Run ab_mt 20 28 ls st w = ab_Run ab_mt 20 29 ls (ab_gv (ls 0) :: st) w := E_loadr (n := 1) rfl h
theorem e_20_29 {ls : ab_L} {st : List Value} {w : ab_W} {a : Nat} (h : ab_isF 0 0 (w.2 a) = true) : ab_Run ab_mt 20 29 ls (.ref a :: st) w = ab_Run ab_mt 20 32 ls (ab_fv 0 (w.2 a) :: st) w := E_get rfl h
theorem e_20_32 {ls : ab_L} {st : List Value} {w : ab_W} (h : ab_isI (ls 1) = true) : ab_Run ab_mt 20 32 ls st w = ab_Run ab_mt 20 33 ls (ab_gv (ls 1) :: st) w := E_loadi (n := 1) rfl h
theorem e_20_33 {ls : ab_L} {st : List Value} {w : ab_W} {v0 v1 : Value} (h1 : ab_recv ab_mt 54 [v0, v1] w.2 = true) (h8 : ab_w8 st = true) : ab_Run ab_mt 20 33 ls (v1 :: v0 :: st) w = ab_aft 54 20 33 ls st (ab_Cl 54 [v0, v1] w) := E_call2 rfl h1 h8
theorem e_20_36 {ls : ab_L} {st : List Value} {w : ab_W} : ab_Run ab_mt 20 36 ls st w = ab_Run ab_mt 20 51 ls st w := E_goto rfl
theorem e_20_39 {ls : ab_L} {st : List Value} {w : ab_W} (h : ab_isR (ls 0) = true) : ab_Run ab_mt 20 39 ls st w = ab_Run ab_mt 20 40 ls (ab_gv (ls 0) :: st) w := E_loadr (n := 1) rfl h
theorem e_20_40 {ls : ab_L} {st : List Value} {w : ab_W} {a : Nat} (h : ab_isF 0 1 (w.2 a) = true) : ab_Run ab_mt 20 40 ls (.ref a :: st) w = ab_Run ab_mt 20 43 ls (ab_fv 1 (w.2 a) :: st) w := E_get rfl h
theorem e_20_43 {ls : ab_L} {st : List Value} {w : ab_W} {a : Nat} (h : ab_isF 2 0 (w.2 a) = true) : ab_Run ab_mt 20 43 ls (.ref a :: st) w = ab_Run ab_mt 20 46 ls (ab_fv 0 (w.2 a) :: st) w := E_get rfl h
theorem e_20_46 {ls : ab_L} {st : List Value} {w : ab_W} (h : ab_isI (ls 1) = true) : ab_Run ab_mt 20 46 ls st w = ab_Run ab_mt 20 47 ls (ab_gv (ls 1) :: st) w := E_loadi (n := 1) rfl h
theorem e_20_47 {ls : ab_L} {st : List Value} {w : ab_W} (h : ab_isI (ls 2) = true) : ab_Run ab_mt 20 47 ls st w = ab_Run ab_mt 20 48 ls (ab_gv (ls 2) :: st) w := E_loadi (n := 1) rfl h
theorem e_20_48 {ls : ab_L} {st : List Value} {w : ab_W} {v0 v1 v2 : Value} (h1 : ab_recv ab_mt 75 [v0, v1, v2] w.2 = true) (h8 : ab_w8 st = true) : ab_Run ab_mt 20 48 ls (v2 :: v1 :: v0 :: st) w = ab_aft 75 20 48 ls st (ab_Cl 75 [v0, v1, v2] w) := E_call3 rfl h1 h8
theorem e_20_51 {ls : ab_L} {w : ab_W} {x : Int32} : ab_Run ab_mt 20 51 ls [.int x] w = some (.inl (some (.int x)), w) := E_reti rfl
theorem rv_20 {σ : ab_S} {t : Nat} {x0 : Int32} {x1 : Int32} : ab_recv ab_mt 20 [.ref t, .int x0, .int x1] σ = ab_isO 0 (σ t) := rfl
theorem x_20_11 {ls : ab_L} {rest : List Value} {E : Nat} {w : ab_W} : ab_aft 33 20 11 ls rest (some (.inr E, w)) = some (.inr E, w) := ab_aft_x rfl rfl (by unfold ab_hand; rfl)
theorem x_20_20 {ls : ab_L} {rest : List Value} {E : Nat} {w : ab_W} : ab_aft 34 20 20 ls rest (some (.inr E, w)) = some (.inr E, w) := ab_aft_x rfl rfl (by unfold ab_hand; rfl)
theorem e_21_0 {ls : ab_L} {st : List Value} {w : ab_W} (h : ab_isI (ls 1) = true) : ab_Run ab_mt 21 0 ls st w = ab_Run ab_mt 21 1 ls (ab_gv (ls 1) :: st) w := E_loadi (n := 1) rfl h
theorem e_21_1 {ls : ab_L} {st : List Value} {w : ab_W} (h : ab_isR (ls 0) = true) : ab_Run ab_mt 21 1 ls st w = ab_Run ab_mt 21 2 ls (ab_gv (ls 0) :: st) w := E_loadr (n := 1) rfl h
theorem e_21_2 {ls : ab_L} {st : List Value} {w : ab_W} {a : Nat} (h : ab_isF 0 0 (w.2 a) = true) : ab_Run ab_mt 21 2 ls (.ref a :: st) w = ab_Run ab_mt 21 5 ls (ab_fv 0 (w.2 a) :: st) w := E_get rfl h
theorem e_21_5 {ls : ab_L} {st : List Value} {w : ab_W} {a : Nat} (h : ab_isF 1 6 (w.2 a) = true) : ab_Run ab_mt 21 5 ls (.ref a :: st) w = ab_Run ab_mt 21 8 ls (ab_fv 6 (w.2 a) :: st) w := E_get rfl h
theorem e_21_8 {ls : ab_L} {st : List Value} {w : ab_W} {v0 v1 : Value} (h1 : ab_recv ab_mt 33 [v0, v1] w.2 = true) (h8 : ab_w8 st = true) : ab_Run ab_mt 21 8 ls (v1 :: v0 :: st) w = ab_aft 33 21 8 ls st (ab_Cl 33 [v0, v1] w) := E_call2 rfl h1 h8
theorem e_21_11 {ls : ab_L} {st : List Value} {w : ab_W} (h : ab_isI (ls 2) = true) : ab_Run ab_mt 21 11 ls st w = ab_Run ab_mt 21 12 ls (ab_gv (ls 2) :: st) w := E_loadi (n := 1) rfl h
theorem e_21_12 {ls : ab_L} {st : List Value} {w : ab_W} {x : Int32} : ab_Run ab_mt 21 12 ls (.int x :: st) w = ab_Run ab_mt 21 13 ls (.long x.toInt64 :: st) w := E_i2l rfl
theorem e_21_13 {ls : ab_L} {st : List Value} {w : ab_W} : ab_Run ab_mt 21 13 ls st w = ab_Run ab_mt 21 14 ls (.long (lN 0) :: st) w := E_push (n := 1) rfl
theorem e_21_14 {ls : ab_L} {st : List Value} {w : ab_W} : ab_Run ab_mt 21 14 ls st w = ab_Run ab_mt 21 17 ls (.long (lN 6) :: st) w := E_push (n := 3) rfl
theorem e_21_17 {ls : ab_L} {st : List Value} {w : ab_W} {v0 v1 v2 : Value} (h1 : ab_recv ab_mt 34 [v0, v1, v2] w.2 = true) (h8 : ab_w8 st = true) : ab_Run ab_mt 21 17 ls (v2 :: v1 :: v0 :: st) w = ab_aft 34 21 17 ls st (ab_Cl 34 [v0, v1, v2] w) := E_call3 rfl h1 h8
theorem e_21_20 {ls : ab_L} {st : List Value} {w : ab_W} (h : ab_isI (ls 2) = true) : ab_Run ab_mt 21 20 ls st w = ab_Run ab_mt 21 21 ls (ab_gv (ls 2) :: st) w := E_loadi (n := 1) rfl h
theorem e_21_21 {ls : ab_L} {st : List Value} {w : ab_W} {x : Int32} : ab_Run ab_mt 21 21 ls (.int x :: st) w = if x.toInt < 0 ∨ 5 < x.toInt then ab_Run ab_mt 21 117 ls st w else ab_Run ab_mt 21 (([60, 70, 80, 90, 99, 108] : List Nat).getD (x.toInt - 0).toNat 0) ls st w := E_swi rfl (by decide)
theorem e_21_60 {ls : ab_L} {st : List Value} {w : ab_W} (h : ab_isR (ls 0) = true) : ab_Run ab_mt 21 60 ls st w = ab_Run ab_mt 21 61 ls (ab_gv (ls 0) :: st) w := E_loadr (n := 1) rfl h
theorem e_21_61 {ls : ab_L} {st : List Value} {w : ab_W} {a : Nat} (h : ab_isF 0 0 (w.2 a) = true) : ab_Run ab_mt 21 61 ls (.ref a :: st) w = ab_Run ab_mt 21 64 ls (ab_fv 0 (w.2 a) :: st) w := E_get rfl h
theorem e_21_64 {ls : ab_L} {st : List Value} {w : ab_W} (h : ab_isI (ls 1) = true) : ab_Run ab_mt 21 64 ls st w = ab_Run ab_mt 21 65 ls (ab_gv (ls 1) :: st) w := E_loadi (n := 1) rfl h
theorem e_21_65 {ls : ab_L} {st : List Value} {w : ab_W} {v0 v1 : Value} (h1 : ab_recv ab_mt 55 [v0, v1] w.2 = true) (h8 : ab_w8 st = true) : ab_Run ab_mt 21 65 ls (v1 :: v0 :: st) w = ab_aft 55 21 65 ls st (ab_Cl 55 [v0, v1] w) := E_call2 rfl h1 h8
theorem e_21_68 {ls : ab_L} {st : List Value} {w : ab_W} {x : Int32} : ab_Run ab_mt 21 68 ls (.int x :: st) w = ab_Run ab_mt 21 69 ls (.long x.toInt64 :: st) w := E_i2l rfl
theorem e_21_69 {ls : ab_L} {w : ab_W} {x : Int64} : ab_Run ab_mt 21 69 ls [.long x] w = some (.inl (some (.long x)), w) := E_retl rfl
theorem e_21_70 {ls : ab_L} {st : List Value} {w : ab_W} (h : ab_isR (ls 0) = true) : ab_Run ab_mt 21 70 ls st w = ab_Run ab_mt 21 71 ls (ab_gv (ls 0) :: st) w := E_loadr (n := 1) rfl h
theorem e_21_71 {ls : ab_L} {st : List Value} {w : ab_W} {a : Nat} (h : ab_isF 0 0 (w.2 a) = true) : ab_Run ab_mt 21 71 ls (.ref a :: st) w = ab_Run ab_mt 21 74 ls (ab_fv 0 (w.2 a) :: st) w := E_get rfl h
theorem e_21_74 {ls : ab_L} {st : List Value} {w : ab_W} (h : ab_isI (ls 1) = true) : ab_Run ab_mt 21 74 ls st w = ab_Run ab_mt 21 75 ls (ab_gv (ls 1) :: st) w := E_loadi (n := 1) rfl h
theorem e_21_75 {ls : ab_L} {st : List Value} {w : ab_W} {v0 v1 : Value} (h1 : ab_recv ab_mt 56 [v0, v1] w.2 = true) (h8 : ab_w8 st = true) : ab_Run ab_mt 21 75 ls (v1 :: v0 :: st) w = ab_aft 56 21 75 ls st (ab_Cl 56 [v0, v1] w) := E_call2 rfl h1 h8
theorem e_21_78 {ls : ab_L} {st : List Value} {w : ab_W} {x : Int32} : ab_Run ab_mt 21 78 ls (.int x :: st) w = ab_Run ab_mt 21 79 ls (.long x.toInt64 :: st) w := E_i2l rfl
theorem e_21_79 {ls : ab_L} {w : ab_W} {x : Int64} : ab_Run ab_mt 21 79 ls [.long x] w = some (.inl (some (.long x)), w) := E_retl rfl
theorem e_21_80 {ls : ab_L} {st : List Value} {w : ab_W} (h : ab_isR (ls 0) = true) : ab_Run ab_mt 21 80 ls st w = ab_Run ab_mt 21 81 ls (ab_gv (ls 0) :: st) w := E_loadr (n := 1) rfl h
theorem e_21_81 {ls : ab_L} {st : List Value} {w : ab_W} {a : Nat} (h : ab_isF 0 0 (w.2 a) = true) : ab_Run ab_mt 21 81 ls (.ref a :: st) w = ab_Run ab_mt 21 84 ls (ab_fv 0 (w.2 a) :: st) w := E_get rfl h
theorem e_21_84 {ls : ab_L} {st : List Value} {w : ab_W} (h : ab_isI (ls 1) = true) : ab_Run ab_mt 21 84 ls st w = ab_Run ab_mt 21 85 ls (ab_gv (ls 1) :: st) w := E_loadi (n := 1) rfl h
theorem e_21_85 {ls : ab_L} {st : List Value} {w : ab_W} {v0 v1 : Value} (h1 : ab_recv ab_mt 57 [v0, v1] w.2 = true) (h8 : ab_w8 st = true) : ab_Run ab_mt 21 85 ls (v1 :: v0 :: st) w = ab_aft 57 21 85 ls st (ab_Cl 57 [v0, v1] w) := E_call2 rfl h1 h8
theorem e_21_88 {ls : ab_L} {st : List Value} {w : ab_W} {x : Int32} : ab_Run ab_mt 21 88 ls (.int x :: st) w = ab_Run ab_mt 21 89 ls (.long x.toInt64 :: st) w := E_i2l rfl
theorem e_21_89 {ls : ab_L} {w : ab_W} {x : Int64} : ab_Run ab_mt 21 89 ls [.long x] w = some (.inl (some (.long x)), w) := E_retl rfl
theorem e_21_90 {ls : ab_L} {st : List Value} {w : ab_W} (h : ab_isR (ls 0) = true) : ab_Run ab_mt 21 90 ls st w = ab_Run ab_mt 21 91 ls (ab_gv (ls 0) :: st) w := E_loadr (n := 1) rfl h
theorem e_21_91 {ls : ab_L} {st : List Value} {w : ab_W} {a : Nat} (h : ab_isF 0 0 (w.2 a) = true) : ab_Run ab_mt 21 91 ls (.ref a :: st) w = ab_Run ab_mt 21 94 ls (ab_fv 0 (w.2 a) :: st) w := E_get rfl h
theorem e_21_94 {ls : ab_L} {st : List Value} {w : ab_W} (h : ab_isI (ls 1) = true) : ab_Run ab_mt 21 94 ls st w = ab_Run ab_mt 21 95 ls (ab_gv (ls 1) :: st) w := E_loadi (n := 1) rfl h
theorem e_21_95 {ls : ab_L} {st : List Value} {w : ab_W} {v0 v1 : Value} (h1 : ab_recv ab_mt 58 [v0, v1] w.2 = true) (h8 : ab_w8 st = true) : ab_Run ab_mt 21 95 ls (v1 :: v0 :: st) w = ab_aft 58 21 95 ls st (ab_Cl 58 [v0, v1] w) := E_call2 rfl h1 h8
theorem e_21_98 {ls : ab_L} {w : ab_W} {x : Int64} : ab_Run ab_mt 21 98 ls [.long x] w = some (.inl (some (.long x)), w) := E_retl rfl
theorem e_21_99 {ls : ab_L} {st : List Value} {w : ab_W} (h : ab_isR (ls 0) = true) : ab_Run ab_mt 21 99 ls st w = ab_Run ab_mt 21 100 ls (ab_gv (ls 0) :: st) w := E_loadr (n := 1) rfl h
theorem e_21_100 {ls : ab_L} {st : List Value} {w : ab_W} {a : Nat} (h : ab_isF 0 0 (w.2 a) = true) : ab_Run ab_mt 21 100 ls (.ref a :: st) w = ab_Run ab_mt 21 103 ls (ab_fv 0 (w.2 a) :: st) w := E_get rfl h
theorem e_21_103 {ls : ab_L} {st : List Value} {w : ab_W} (h : ab_isI (ls 1) = true) : ab_Run ab_mt 21 103 ls st w = ab_Run ab_mt 21 104 ls (ab_gv (ls 1) :: st) w := E_loadi (n := 1) rfl h
theorem e_21_104 {ls : ab_L} {st : List Value} {w : ab_W} {v0 v1 : Value} (h1 : ab_recv ab_mt 59 [v0, v1] w.2 = true) (h8 : ab_w8 st = true) : ab_Run ab_mt 21 104 ls (v1 :: v0 :: st) w = ab_aft 59 21 104 ls st (ab_Cl 59 [v0, v1] w) := E_call2 rfl h1 h8
theorem e_21_107 {ls : ab_L} {w : ab_W} {x : Int64} : ab_Run ab_mt 21 107 ls [.long x] w = some (.inl (some (.long x)), w) := E_retl rfl
theorem e_21_108 {ls : ab_L} {st : List Value} {w : ab_W} (h : ab_isR (ls 0) = true) : ab_Run ab_mt 21 108 ls st w = ab_Run ab_mt 21 109 ls (ab_gv (ls 0) :: st) w := E_loadr (n := 1) rfl h
theorem e_21_109 {ls : ab_L} {st : List Value} {w : ab_W} {a : Nat} (h : ab_isF 0 0 (w.2 a) = true) : ab_Run ab_mt 21 109 ls (.ref a :: st) w = ab_Run ab_mt 21 112 ls (ab_fv 0 (w.2 a) :: st) w := E_get rfl h
theorem e_21_112 {ls : ab_L} {st : List Value} {w : ab_W} (h : ab_isI (ls 1) = true) : ab_Run ab_mt 21 112 ls st w = ab_Run ab_mt 21 113 ls (ab_gv (ls 1) :: st) w := E_loadi (n := 1) rfl h
theorem e_21_113 {ls : ab_L} {st : List Value} {w : ab_W} {v0 v1 : Value} (h1 : ab_recv ab_mt 60 [v0, v1] w.2 = true) (h8 : ab_w8 st = true) : ab_Run ab_mt 21 113 ls (v1 :: v0 :: st) w = ab_aft 60 21 113 ls st (ab_Cl 60 [v0, v1] w) := E_call2 rfl h1 h8
theorem e_21_116 {ls : ab_L} {w : ab_W} {x : Int64} : ab_Run ab_mt 21 116 ls [.long x] w = some (.inl (some (.long x)), w) := E_retl rfl
theorem e_21_117 {ls : ab_L} {st : List Value} {w : ab_W} (h : ab_isR (ls 0) = true) : ab_Run ab_mt 21 117 ls st w = ab_Run ab_mt 21 118 ls (ab_gv (ls 0) :: st) w := E_loadr (n := 1) rfl h
theorem e_21_118 {ls : ab_L} {st : List Value} {w : ab_W} {a : Nat} (h : ab_isF 0 0 (w.2 a) = true) : ab_Run ab_mt 21 118 ls (.ref a :: st) w = ab_Run ab_mt 21 121 ls (ab_fv 0 (w.2 a) :: st) w := E_get rfl h
theorem e_21_121 {ls : ab_L} {st : List Value} {w : ab_W} (h : ab_isI (ls 1) = true) : ab_Run ab_mt 21 121 ls st w = ab_Run ab_mt 21 122 ls (ab_gv (ls 1) :: st) w := E_loadi (n := 1) rfl h
theorem e_21_122 {ls : ab_L} {st : List Value} {w : ab_W} {v0 v1 : Value} (h1 : ab_recv ab_mt 61 [v0, v1] w.2 = true) (h8 : ab_w8 st = true) : ab_Run ab_mt 21 122 ls (v1 :: v0 :: st) w = ab_aft 61 21 122 ls st (ab_Cl 61 [v0, v1] w) := E_call2 rfl h1 h8
theorem e_21_125 {ls : ab_L} {st : List Value} {w : ab_W} {x : Int32} : ab_Run ab_mt 21 125 ls (.int x :: st) w = ab_Run ab_mt 21 126 ls (.long x.toInt64 :: st) w := E_i2l rfl
theorem e_21_126 {ls : ab_L} {w : ab_W} {x : Int64} : ab_Run ab_mt 21 126 ls [.long x] w = some (.inl (some (.long x)), w) := E_retl rfl
theorem rv_21 {σ : ab_S} {t : Nat} {x0 : Int32} {x1 : Int32} : ab_recv ab_mt 21 [.ref t, .int x0, .int x1] σ = ab_isO 0 (σ t) := rfl
theorem x_21_8 {ls : ab_L} {rest : List Value} {E : Nat} {w : ab_W} : ab_aft 33 21 8 ls rest (some (.inr E, w)) = some (.inr E, w) := ab_aft_x rfl rfl (by unfold ab_hand; rfl)
theorem x_21_17 {ls : ab_L} {rest : List Value} {E : Nat} {w : ab_W} : ab_aft 34 21 17 ls rest (some (.inr E, w)) = some (.inr E, w) := ab_aft_x rfl rfl (by unfold ab_hand; rfl)
theorem e_22_0 {ls : ab_L} {st : List Value} {w : ab_W} (h : ab_isI (ls 1) = true) : ab_Run ab_mt 22 0 ls st w = ab_Run ab_mt 22 1 ls (ab_gv (ls 1) :: st) w := E_loadi (n := 1) rfl h
theorem e_22_1 {ls : ab_L} {st : List Value} {w : ab_W} (h : ab_isR (ls 0) = true) : ab_Run ab_mt 22 1 ls st w = ab_Run ab_mt 22 2 ls (ab_gv (ls 0) :: st) w := E_loadr (n := 1) rfl h
theorem e_22_2 {ls : ab_L} {st : List Value} {w : ab_W} {a : Nat} (h : ab_isF 0 0 (w.2 a) = true) : ab_Run ab_mt 22 2 ls (.ref a :: st) w = ab_Run ab_mt 22 5 ls (ab_fv 0 (w.2 a) :: st) w := E_get rfl h
theorem e_22_5 {ls : ab_L} {st : List Value} {w : ab_W} {a : Nat} (h : ab_isF 1 6 (w.2 a) = true) : ab_Run ab_mt 22 5 ls (.ref a :: st) w = ab_Run ab_mt 22 8 ls (ab_fv 6 (w.2 a) :: st) w := E_get rfl h
theorem e_22_8 {ls : ab_L} {st : List Value} {w : ab_W} {v0 v1 : Value} (h1 : ab_recv ab_mt 33 [v0, v1] w.2 = true) (h8 : ab_w8 st = true) : ab_Run ab_mt 22 8 ls (v1 :: v0 :: st) w = ab_aft 33 22 8 ls st (ab_Cl 33 [v0, v1] w) := E_call2 rfl h1 h8
theorem e_22_11 {ls : ab_L} {st : List Value} {w : ab_W} (h : ab_isI (ls 2) = true) : ab_Run ab_mt 22 11 ls st w = ab_Run ab_mt 22 12 ls (ab_gv (ls 2) :: st) w := E_loadi (n := 1) rfl h
theorem e_22_12 {ls : ab_L} {st : List Value} {w : ab_W} (h : ab_isR (ls 0) = true) : ab_Run ab_mt 22 12 ls st w = ab_Run ab_mt 22 13 ls (ab_gv (ls 0) :: st) w := E_loadr (n := 1) rfl h
theorem e_22_13 {ls : ab_L} {st : List Value} {w : ab_W} {a : Nat} (h : ab_isF 0 0 (w.2 a) = true) : ab_Run ab_mt 22 13 ls (.ref a :: st) w = ab_Run ab_mt 22 16 ls (ab_fv 0 (w.2 a) :: st) w := E_get rfl h
theorem e_22_16 {ls : ab_L} {st : List Value} {w : ab_W} (h : ab_isI (ls 1) = true) : ab_Run ab_mt 22 16 ls st w = ab_Run ab_mt 22 17 ls (ab_gv (ls 1) :: st) w := E_loadi (n := 1) rfl h
theorem e_22_17 {ls : ab_L} {st : List Value} {w : ab_W} {v0 v1 : Value} (h1 : ab_recv ab_mt 62 [v0, v1] w.2 = true) (h8 : ab_w8 st = true) : ab_Run ab_mt 22 17 ls (v1 :: v0 :: st) w = ab_aft 62 22 17 ls st (ab_Cl 62 [v0, v1] w) := E_call2 rfl h1 h8
theorem e_22_20 {ls : ab_L} {st : List Value} {w : ab_W} {v0 v1 : Value} (h1 : ab_recv ab_mt 33 [v0, v1] w.2 = true) (h8 : ab_w8 st = true) : ab_Run ab_mt 22 20 ls (v1 :: v0 :: st) w = ab_aft 33 22 20 ls st (ab_Cl 33 [v0, v1] w) := E_call2 rfl h1 h8
theorem e_22_23 {ls : ab_L} {st : List Value} {w : ab_W} (h : ab_isR (ls 0) = true) : ab_Run ab_mt 22 23 ls st w = ab_Run ab_mt 22 24 ls (ab_gv (ls 0) :: st) w := E_loadr (n := 1) rfl h
theorem e_22_24 {ls : ab_L} {st : List Value} {w : ab_W} {a : Nat} (h : ab_isF 0 0 (w.2 a) = true) : ab_Run ab_mt 22 24 ls (.ref a :: st) w = ab_Run ab_mt 22 27 ls (ab_fv 0 (w.2 a) :: st) w := E_get rfl h
theorem e_22_27 {ls : ab_L} {st : List Value} {w : ab_W} (h : ab_isI (ls 1) = true) : ab_Run ab_mt 22 27 ls st w = ab_Run ab_mt 22 28 ls (ab_gv (ls 1) :: st) w := E_loadi (n := 1) rfl h
theorem e_22_28 {ls : ab_L} {st : List Value} {w : ab_W} (h : ab_isI (ls 2) = true) : ab_Run ab_mt 22 28 ls st w = ab_Run ab_mt 22 29 ls (ab_gv (ls 2) :: st) w := E_loadi (n := 1) rfl h
theorem e_22_29 {ls : ab_L} {st : List Value} {w : ab_W} {v0 v1 v2 : Value} (h1 : ab_recv ab_mt 63 [v0, v1, v2] w.2 = true) (h8 : ab_w8 st = true) : ab_Run ab_mt 22 29 ls (v2 :: v1 :: v0 :: st) w = ab_aft 63 22 29 ls st (ab_Cl 63 [v0, v1, v2] w) := E_call3 rfl h1 h8
theorem e_22_32 {ls : ab_L} {w : ab_W} {x : Int64} : ab_Run ab_mt 22 32 ls [.long x] w = some (.inl (some (.long x)), w) := E_retl rfl
theorem rv_22 {σ : ab_S} {t : Nat} {x0 : Int32} {x1 : Int32} : ab_recv ab_mt 22 [.ref t, .int x0, .int x1] σ = ab_isO 0 (σ t) := rfl
theorem x_22_8 {ls : ab_L} {rest : List Value} {E : Nat} {w : ab_W} : ab_aft 33 22 8 ls rest (some (.inr E, w)) = some (.inr E, w) := ab_aft_x rfl rfl (by unfold ab_hand; rfl)
theorem x_22_20 {ls : ab_L} {rest : List Value} {E : Nat} {w : ab_W} : ab_aft 33 22 20 ls rest (some (.inr E, w)) = some (.inr E, w) := ab_aft_x rfl rfl (by unfold ab_hand; rfl)
theorem e_23_0 {ls : ab_L} {st : List Value} {w : ab_W} (h : ab_isI (ls 1) = true) : ab_Run ab_mt 23 0 ls st w = ab_Run ab_mt 23 1 ls (ab_gv (ls 1) :: st) w := E_loadi (n := 1) rfl h
theorem e_23_1 {ls : ab_L} {st : List Value} {w : ab_W} (h : ab_isR (ls 0) = true) : ab_Run ab_mt 23 1 ls st w = ab_Run ab_mt 23 2 ls (ab_gv (ls 0) :: st) w := E_loadr (n := 1) rfl h
theorem e_23_2 {ls : ab_L} {st : List Value} {w : ab_W} {a : Nat} (h : ab_isF 0 1 (w.2 a) = true) : ab_Run ab_mt 23 2 ls (.ref a :: st) w = ab_Run ab_mt 23 5 ls (ab_fv 1 (w.2 a) :: st) w := E_get rfl h
theorem e_23_5 {ls : ab_L} {st : List Value} {w : ab_W} {a : Nat} (h : ab_isF 2 1 (w.2 a) = true) : ab_Run ab_mt 23 5 ls (.ref a :: st) w = ab_Run ab_mt 23 8 ls (ab_fv 1 (w.2 a) :: st) w := E_get rfl h
theorem e_23_8 {ls : ab_L} {st : List Value} {w : ab_W} {a : Nat} (h : ab_isF 3 3 (w.2 a) = true) : ab_Run ab_mt 23 8 ls (.ref a :: st) w = ab_Run ab_mt 23 11 ls (ab_fv 3 (w.2 a) :: st) w := E_get rfl h
theorem e_23_11 {ls : ab_L} {st : List Value} {w : ab_W} {v0 v1 : Value} (h1 : ab_recv ab_mt 33 [v0, v1] w.2 = true) (h8 : ab_w8 st = true) : ab_Run ab_mt 23 11 ls (v1 :: v0 :: st) w = ab_aft 33 23 11 ls st (ab_Cl 33 [v0, v1] w) := E_call2 rfl h1 h8
theorem e_23_14 {ls : ab_L} {st : List Value} {w : ab_W} (h : ab_isI (ls 2) = true) : ab_Run ab_mt 23 14 ls st w = ab_Run ab_mt 23 15 ls (ab_gv (ls 2) :: st) w := E_loadi (n := 1) rfl h
theorem e_23_15 {ls : ab_L} {st : List Value} {w : ab_W} {x : Int32} : ab_Run ab_mt 23 15 ls (.int x :: st) w = ab_Run ab_mt 23 16 ls (.long x.toInt64 :: st) w := E_i2l rfl
theorem e_23_16 {ls : ab_L} {st : List Value} {w : ab_W} : ab_Run ab_mt 23 16 ls st w = ab_Run ab_mt 23 17 ls (.long (lN 0) :: st) w := E_push (n := 1) rfl
theorem e_23_17 {ls : ab_L} {st : List Value} {w : ab_W} : ab_Run ab_mt 23 17 ls st w = ab_Run ab_mt 23 20 ls (.long (lN 2) :: st) w := E_push (n := 3) rfl
theorem e_23_20 {ls : ab_L} {st : List Value} {w : ab_W} {v0 v1 v2 : Value} (h1 : ab_recv ab_mt 34 [v0, v1, v2] w.2 = true) (h8 : ab_w8 st = true) : ab_Run ab_mt 23 20 ls (v2 :: v1 :: v0 :: st) w = ab_aft 34 23 20 ls st (ab_Cl 34 [v0, v1, v2] w) := E_call3 rfl h1 h8
theorem e_23_23 {ls : ab_L} {st : List Value} {w : ab_W} (h : ab_isR (ls 0) = true) : ab_Run ab_mt 23 23 ls st w = ab_Run ab_mt 23 24 ls (ab_gv (ls 0) :: st) w := E_loadr (n := 1) rfl h
theorem e_23_24 {ls : ab_L} {st : List Value} {w : ab_W} {a : Nat} (h : ab_isF 0 1 (w.2 a) = true) : ab_Run ab_mt 23 24 ls (.ref a :: st) w = ab_Run ab_mt 23 27 ls (ab_fv 1 (w.2 a) :: st) w := E_get rfl h
theorem e_23_27 {ls : ab_L} {st : List Value} {w : ab_W} {a : Nat} (h : ab_isF 2 1 (w.2 a) = true) : ab_Run ab_mt 23 27 ls (.ref a :: st) w = ab_Run ab_mt 23 30 ls (ab_fv 1 (w.2 a) :: st) w := E_get rfl h
theorem e_23_30 {ls : ab_L} {st : List Value} {w : ab_W} (h : ab_isI (ls 1) = true) : ab_Run ab_mt 23 30 ls st w = ab_Run ab_mt 23 31 ls (ab_gv (ls 1) :: st) w := E_loadi (n := 1) rfl h
theorem e_23_31 {ls : ab_L} {st : List Value} {w : ab_W} (h : ab_isI (ls 2) = true) : ab_Run ab_mt 23 31 ls st w = ab_Run ab_mt 23 32 ls (ab_gv (ls 2) :: st) w := E_loadi (n := 1) rfl h
theorem e_23_32 {ls : ab_L} {st : List Value} {w : ab_W} {v0 v1 v2 : Value} (h1 : ab_recv ab_mt 75 [v0, v1, v2] w.2 = true) (h8 : ab_w8 st = true) : ab_Run ab_mt 23 32 ls (v2 :: v1 :: v0 :: st) w = ab_aft 75 23 32 ls st (ab_Cl 75 [v0, v1, v2] w) := E_call3 rfl h1 h8
theorem e_23_35 {ls : ab_L} {w : ab_W} {x : Int32} : ab_Run ab_mt 23 35 ls [.int x] w = some (.inl (some (.int x)), w) := E_reti rfl
theorem rv_23 {σ : ab_S} {t : Nat} {x0 : Int32} {x1 : Int32} : ab_recv ab_mt 23 [.ref t, .int x0, .int x1] σ = ab_isO 0 (σ t) := rfl
theorem x_23_11 {ls : ab_L} {rest : List Value} {E : Nat} {w : ab_W} : ab_aft 33 23 11 ls rest (some (.inr E, w)) = some (.inr E, w) := ab_aft_x rfl rfl (by unfold ab_hand; rfl)
theorem x_23_20 {ls : ab_L} {rest : List Value} {E : Nat} {w : ab_W} : ab_aft 34 23 20 ls rest (some (.inr E, w)) = some (.inr E, w) := ab_aft_x rfl rfl (by unfold ab_hand; rfl)
theorem e_24_0 {ls : ab_L} {st : List Value} {w : ab_W} (h : ab_isI (ls 1) = true) : ab_Run ab_mt 24 0 ls st w = ab_Run ab_mt 24 1 ls (ab_gv (ls 1) :: st) w := E_loadi (n := 1) rfl h
theorem e_24_1 {ls : ab_L} {st : List Value} {w : ab_W} (h : ab_isR (ls 0) = true) : ab_Run ab_mt 24 1 ls st w = ab_Run ab_mt 24 2 ls (ab_gv (ls 0) :: st) w := E_loadr (n := 1) rfl h
theorem e_24_2 {ls : ab_L} {st : List Value} {w : ab_W} {a : Nat} (h : ab_isF 0 1 (w.2 a) = true) : ab_Run ab_mt 24 2 ls (.ref a :: st) w = ab_Run ab_mt 24 5 ls (ab_fv 1 (w.2 a) :: st) w := E_get rfl h
theorem e_24_5 {ls : ab_L} {st : List Value} {w : ab_W} {a : Nat} (h : ab_isF 2 2 (w.2 a) = true) : ab_Run ab_mt 24 5 ls (.ref a :: st) w = ab_Run ab_mt 24 8 ls (ab_fv 2 (w.2 a) :: st) w := E_get rfl h
theorem e_24_8 {ls : ab_L} {st : List Value} {w : ab_W} {a : Nat} (h : ab_isF 3 3 (w.2 a) = true) : ab_Run ab_mt 24 8 ls (.ref a :: st) w = ab_Run ab_mt 24 11 ls (ab_fv 3 (w.2 a) :: st) w := E_get rfl h
theorem e_24_11 {ls : ab_L} {st : List Value} {w : ab_W} {v0 v1 : Value} (h1 : ab_recv ab_mt 33 [v0, v1] w.2 = true) (h8 : ab_w8 st = true) : ab_Run ab_mt 24 11 ls (v1 :: v0 :: st) w = ab_aft 33 24 11 ls st (ab_Cl 33 [v0, v1] w) := E_call2 rfl h1 h8
theorem e_24_14 {ls : ab_L} {st : List Value} {w : ab_W} (h : ab_isI (ls 2) = true) : ab_Run ab_mt 24 14 ls st w = ab_Run ab_mt 24 15 ls (ab_gv (ls 2) :: st) w := E_loadi (n := 1) rfl h
theorem e_24_15 {ls : ab_L} {st : List Value} {w : ab_W} {x : Int32} : ab_Run ab_mt 24 15 ls (.int x :: st) w = ab_Run ab_mt 24 16 ls (.long x.toInt64 :: st) w := E_i2l rfl
theorem e_24_16 {ls : ab_L} {st : List Value} {w : ab_W} : ab_Run ab_mt 24 16 ls st w = ab_Run ab_mt 24 17 ls (.long (lN 0) :: st) w := E_push (n := 1) rfl
theorem e_24_17 {ls : ab_L} {st : List Value} {w : ab_W} : ab_Run ab_mt 24 17 ls st w = ab_Run ab_mt 24 20 ls (.long (lN 4) :: st) w := E_push (n := 3) rfl
theorem e_24_20 {ls : ab_L} {st : List Value} {w : ab_W} {v0 v1 v2 : Value} (h1 : ab_recv ab_mt 34 [v0, v1, v2] w.2 = true) (h8 : ab_w8 st = true) : ab_Run ab_mt 24 20 ls (v2 :: v1 :: v0 :: st) w = ab_aft 34 24 20 ls st (ab_Cl 34 [v0, v1, v2] w) := E_call3 rfl h1 h8
theorem e_24_23 {ls : ab_L} {st : List Value} {w : ab_W} (h : ab_isI (ls 2) = true) : ab_Run ab_mt 24 23 ls st w = ab_Run ab_mt 24 24 ls (ab_gv (ls 2) :: st) w := E_loadi (n := 1) rfl h
theorem e_24_24 {ls : ab_L} {st : List Value} {w : ab_W} : ab_Run ab_mt 24 24 ls st w = ab_Run ab_mt 24 25 ls (.int (nI 3) :: st) w := E_push (n := 1) rfl
theorem e_24_25 {ls : ab_L} {st : List Value} {w : ab_W} {x y : Int32} : ab_Run ab_mt 24 25 ls (.int y :: .int x :: st) w = if y ≤ x then ab_Run ab_mt 24 42 ls st w else ab_Run ab_mt 24 28 ls st w := E_ic_ge rfl
theorem e_24_28 {ls : ab_L} {st : List Value} {w : ab_W} (h : ab_isR (ls 0) = true) : ab_Run ab_mt 24 28 ls st w = ab_Run ab_mt 24 29 ls (ab_gv (ls 0) :: st) w := E_loadr (n := 1) rfl h
theorem e_24_29 {ls : ab_L} {st : List Value} {w : ab_W} {a : Nat} (h : ab_isF 0 1 (w.2 a) = true) : ab_Run ab_mt 24 29 ls (.ref a :: st) w = ab_Run ab_mt 24 32 ls (ab_fv 1 (w.2 a) :: st) w := E_get rfl h
theorem e_24_32 {ls : ab_L} {st : List Value} {w : ab_W} {a : Nat} (h : ab_isF 2 2 (w.2 a) = true) : ab_Run ab_mt 24 32 ls (.ref a :: st) w = ab_Run ab_mt 24 35 ls (ab_fv 2 (w.2 a) :: st) w := E_get rfl h
theorem e_24_35 {ls : ab_L} {st : List Value} {w : ab_W} (h : ab_isI (ls 1) = true) : ab_Run ab_mt 24 35 ls st w = ab_Run ab_mt 24 36 ls (ab_gv (ls 1) :: st) w := E_loadi (n := 1) rfl h
theorem e_24_36 {ls : ab_L} {st : List Value} {w : ab_W} (h : ab_isI (ls 2) = true) : ab_Run ab_mt 24 36 ls st w = ab_Run ab_mt 24 37 ls (ab_gv (ls 2) :: st) w := E_loadi (n := 1) rfl h
theorem e_24_37 {ls : ab_L} {st : List Value} {w : ab_W} {v0 v1 v2 : Value} (h1 : ab_recv ab_mt 75 [v0, v1, v2] w.2 = true) (h8 : ab_w8 st = true) : ab_Run ab_mt 24 37 ls (v2 :: v1 :: v0 :: st) w = ab_aft 75 24 37 ls st (ab_Cl 75 [v0, v1, v2] w) := E_call3 rfl h1 h8
theorem e_24_40 {ls : ab_L} {st : List Value} {w : ab_W} {x : Int32} : ab_Run ab_mt 24 40 ls (.int x :: st) w = ab_Run ab_mt 24 41 ls (.long x.toInt64 :: st) w := E_i2l rfl
theorem e_24_41 {ls : ab_L} {w : ab_W} {x : Int64} : ab_Run ab_mt 24 41 ls [.long x] w = some (.inl (some (.long x)), w) := E_retl rfl
theorem e_24_42 {ls : ab_L} {st : List Value} {w : ab_W} (h : ab_isI (ls 2) = true) : ab_Run ab_mt 24 42 ls st w = ab_Run ab_mt 24 43 ls (ab_gv (ls 2) :: st) w := E_loadi (n := 1) rfl h
theorem e_24_43 {ls : ab_L} {st : List Value} {w : ab_W} : ab_Run ab_mt 24 43 ls st w = ab_Run ab_mt 24 44 ls (.int (nI 3) :: st) w := E_push (n := 1) rfl
theorem e_24_44 {ls : ab_L} {st : List Value} {w : ab_W} {x y : Int32} : ab_Run ab_mt 24 44 ls (.int y :: .int x :: st) w = if x = y then ab_Run ab_mt 24 47 ls st w else ab_Run ab_mt 24 58 ls st w := E_ic_ne rfl
theorem e_24_47 {ls : ab_L} {st : List Value} {w : ab_W} (h : ab_isR (ls 0) = true) : ab_Run ab_mt 24 47 ls st w = ab_Run ab_mt 24 48 ls (ab_gv (ls 0) :: st) w := E_loadr (n := 1) rfl h
theorem e_24_48 {ls : ab_L} {st : List Value} {w : ab_W} {a : Nat} (h : ab_isF 0 0 (w.2 a) = true) : ab_Run ab_mt 24 48 ls (.ref a :: st) w = ab_Run ab_mt 24 51 ls (ab_fv 0 (w.2 a) :: st) w := E_get rfl h
theorem e_24_51 {ls : ab_L} {st : List Value} {w : ab_W} (h : ab_isI (ls 1) = true) : ab_Run ab_mt 24 51 ls st w = ab_Run ab_mt 24 52 ls (ab_gv (ls 1) :: st) w := E_loadi (n := 1) rfl h
theorem e_24_52 {ls : ab_L} {st : List Value} {w : ab_W} {v0 v1 : Value} (h1 : ab_recv ab_mt 65 [v0, v1] w.2 = true) (h8 : ab_w8 st = true) : ab_Run ab_mt 24 52 ls (v1 :: v0 :: st) w = ab_aft 65 24 52 ls st (ab_Cl 65 [v0, v1] w) := E_call2 rfl h1 h8
theorem e_24_55 {ls : ab_L} {st : List Value} {w : ab_W} : ab_Run ab_mt 24 55 ls st w = ab_Run ab_mt 24 66 ls st w := E_goto rfl
theorem e_24_58 {ls : ab_L} {st : List Value} {w : ab_W} (h : ab_isR (ls 0) = true) : ab_Run ab_mt 24 58 ls st w = ab_Run ab_mt 24 59 ls (ab_gv (ls 0) :: st) w := E_loadr (n := 1) rfl h
theorem e_24_59 {ls : ab_L} {st : List Value} {w : ab_W} {a : Nat} (h : ab_isF 0 0 (w.2 a) = true) : ab_Run ab_mt 24 59 ls (.ref a :: st) w = ab_Run ab_mt 24 62 ls (ab_fv 0 (w.2 a) :: st) w := E_get rfl h
theorem e_24_62 {ls : ab_L} {st : List Value} {w : ab_W} (h : ab_isI (ls 1) = true) : ab_Run ab_mt 24 62 ls st w = ab_Run ab_mt 24 63 ls (ab_gv (ls 1) :: st) w := E_loadi (n := 1) rfl h
theorem e_24_63 {ls : ab_L} {st : List Value} {w : ab_W} {v0 v1 : Value} (h1 : ab_recv ab_mt 66 [v0, v1] w.2 = true) (h8 : ab_w8 st = true) : ab_Run ab_mt 24 63 ls (v1 :: v0 :: st) w = ab_aft 66 24 63 ls st (ab_Cl 66 [v0, v1] w) := E_call2 rfl h1 h8
theorem e_24_66 {ls : ab_L} {w : ab_W} {x : Int64} : ab_Run ab_mt 24 66 ls [.long x] w = some (.inl (some (.long x)), w) := E_retl rfl
theorem rv_24 {σ : ab_S} {t : Nat} {x0 : Int32} {x1 : Int32} : ab_recv ab_mt 24 [.ref t, .int x0, .int x1] σ = ab_isO 0 (σ t) := rfl
theorem x_24_11 {ls : ab_L} {rest : List Value} {E : Nat} {w : ab_W} : ab_aft 33 24 11 ls rest (some (.inr E, w)) = some (.inr E, w) := ab_aft_x rfl rfl (by unfold ab_hand; rfl)
theorem x_24_20 {ls : ab_L} {rest : List Value} {E : Nat} {w : ab_W} : ab_aft 34 24 20 ls rest (some (.inr E, w)) = some (.inr E, w) := ab_aft_x rfl rfl (by unfold ab_hand; rfl)
theorem e_25_0 {ls : ab_L} {st : List Value} {w : ab_W} (h : ab_isI (ls 3) = true) : ab_Run ab_mt 25 0 ls st w = ab_Run ab_mt 25 1 ls (ab_gv (ls 3) :: st) w := E_loadi (n := 1) rfl h
theorem e_25_1 {ls : ab_L} {st : List Value} {w : ab_W} {x : Int32} : ab_Run ab_mt 25 1 ls (.int x :: st) w = ab_Run ab_mt 25 2 ls (.long x.toInt64 :: st) w := E_i2l rfl
theorem e_25_2 {ls : ab_L} {st : List Value} {w : ab_W} : ab_Run ab_mt 25 2 ls st w = ab_Run ab_mt 25 3 ls (.long (lN 0) :: st) w := E_push (n := 1) rfl
theorem e_25_3 {ls : ab_L} {st : List Value} {w : ab_W} : ab_Run ab_mt 25 3 ls st w = ab_Run ab_mt 25 6 ls (.long (lN 2) :: st) w := E_push (n := 3) rfl
theorem e_25_6 {ls : ab_L} {st : List Value} {w : ab_W} {v0 v1 v2 : Value} (h1 : ab_recv ab_mt 34 [v0, v1, v2] w.2 = true) (h8 : ab_w8 st = true) : ab_Run ab_mt 25 6 ls (v2 :: v1 :: v0 :: st) w = ab_aft 34 25 6 ls st (ab_Cl 34 [v0, v1, v2] w) := E_call3 rfl h1 h8
theorem e_25_9 {ls : ab_L} {st : List Value} {w : ab_W} (h : ab_isL (ls 1) = true) (h2 : (ls 2).isNone = true) : ab_Run ab_mt 25 9 ls st w = ab_Run ab_mt 25 10 ls (ab_gv (ls 1) :: st) w := E_loadl (n := 1) rfl h h2
theorem e_25_10 {ls : ab_L} {st : List Value} {w : ab_W} : ab_Run ab_mt 25 10 ls st w = ab_Run ab_mt 25 11 ls (.long (lN 0) :: st) w := E_push (n := 1) rfl
theorem e_25_11 {ls : ab_L} {st : List Value} {w : ab_W} {x y : Int64} : ab_Run ab_mt 25 11 ls (.long y :: .long x :: st) w = ab_Run ab_mt 25 12 ls (.int (lg_cmp x y) :: st) w := E_lcmp rfl
theorem e_25_12 {ls : ab_L} {st : List Value} {w : ab_W} {x : Int32} : ab_Run ab_mt 25 12 ls (.int x :: st) w = if x < 0 then ab_Run ab_mt 25 27 ls st w else ab_Run ab_mt 25 15 ls st w := E_if_lt rfl
theorem e_25_15 {ls : ab_L} {st : List Value} {w : ab_W} (h : ab_isL (ls 1) = true) (h2 : (ls 2).isNone = true) : ab_Run ab_mt 25 15 ls st w = ab_Run ab_mt 25 16 ls (ab_gv (ls 1) :: st) w := E_loadl (n := 1) rfl h h2
theorem e_25_16 {ls : ab_L} {st : List Value} {w : ab_W} (h : ab_isR (ls 0) = true) : ab_Run ab_mt 25 16 ls st w = ab_Run ab_mt 25 17 ls (ab_gv (ls 0) :: st) w := E_loadr (n := 1) rfl h
theorem e_25_17 {ls : ab_L} {st : List Value} {w : ab_W} {a : Nat} (h : ab_isF 0 0 (w.2 a) = true) : ab_Run ab_mt 25 17 ls (.ref a :: st) w = ab_Run ab_mt 25 20 ls (ab_fv 0 (w.2 a) :: st) w := E_get rfl h
theorem e_25_20 {ls : ab_L} {st : List Value} {w : ab_W} {a : Nat} (h : ab_isF 1 7 (w.2 a) = true) : ab_Run ab_mt 25 20 ls (.ref a :: st) w = ab_Run ab_mt 25 23 ls (ab_fv 7 (w.2 a) :: st) w := E_get rfl h
theorem e_25_23 {ls : ab_L} {st : List Value} {w : ab_W} {x y : Int64} : ab_Run ab_mt 25 23 ls (.long y :: .long x :: st) w = ab_Run ab_mt 25 24 ls (.int (lg_cmp x y) :: st) w := E_lcmp rfl
theorem e_25_24 {ls : ab_L} {st : List Value} {w : ab_W} {x : Int32} : ab_Run ab_mt 25 24 ls (.int x :: st) w = if x < 0 then ab_Run ab_mt 25 29 ls st w else ab_Run ab_mt 25 27 ls st w := E_if_lt rfl
theorem e_25_27 {ls : ab_L} {st : List Value} {w : ab_W} : ab_Run ab_mt 25 27 ls st w = ab_Run ab_mt 25 28 ls (.int (-1) :: st) w := E_push (n := 1) rfl
theorem e_25_28 {ls : ab_L} {w : ab_W} {x : Int32} : ab_Run ab_mt 25 28 ls [.int x] w = some (.inl (some (.int x)), w) := E_reti rfl
theorem e_25_29 {ls : ab_L} {st : List Value} {w : ab_W} (h : ab_isR (ls 0) = true) : ab_Run ab_mt 25 29 ls st w = ab_Run ab_mt 25 30 ls (ab_gv (ls 0) :: st) w := E_loadr (n := 1) rfl h
theorem e_25_30 {ls : ab_L} {st : List Value} {w : ab_W} {a : Nat} (h : ab_isF 0 0 (w.2 a) = true) : ab_Run ab_mt 25 30 ls (.ref a :: st) w = ab_Run ab_mt 25 33 ls (ab_fv 0 (w.2 a) :: st) w := E_get rfl h
theorem e_25_33 {ls : ab_L} {st : List Value} {w : ab_W} (h : ab_isL (ls 1) = true) (h2 : (ls 2).isNone = true) : ab_Run ab_mt 25 33 ls st w = ab_Run ab_mt 25 34 ls (ab_gv (ls 1) :: st) w := E_loadl (n := 1) rfl h h2
theorem e_25_34 {ls : ab_L} {st : List Value} {w : ab_W} {v0 v1 : Value} (h1 : ab_recv ab_mt 64 [v0, v1] w.2 = true) (h8 : ab_w8 st = true) : ab_Run ab_mt 25 34 ls (v1 :: v0 :: st) w = ab_aft 64 25 34 ls st (ab_Cl 64 [v0, v1] w) := E_call2 rfl h1 h8
theorem e_25_37 {ls : ab_L} {st : List Value} {w : ab_W} {x : Int32} : ab_Run ab_mt 25 37 ls (.int x :: st) w = ab_Run ab_mt 25 39 (ab_l1 ls 4 (.int x)) st w := E_stori (n := 2) rfl
theorem e_25_39 {ls : ab_L} {st : List Value} {w : ab_W} (h : ab_isL (ls 1) = true) (h2 : (ls 2).isNone = true) : ab_Run ab_mt 25 39 ls st w = ab_Run ab_mt 25 40 ls (ab_gv (ls 1) :: st) w := E_loadl (n := 1) rfl h h2
theorem e_25_40 {ls : ab_L} {st : List Value} {w : ab_W} (h : ab_isR (ls 0) = true) : ab_Run ab_mt 25 40 ls st w = ab_Run ab_mt 25 41 ls (ab_gv (ls 0) :: st) w := E_loadr (n := 1) rfl h
theorem e_25_41 {ls : ab_L} {st : List Value} {w : ab_W} {a : Nat} (h : ab_isF 0 0 (w.2 a) = true) : ab_Run ab_mt 25 41 ls (.ref a :: st) w = ab_Run ab_mt 25 44 ls (ab_fv 0 (w.2 a) :: st) w := E_get rfl h
theorem e_25_44 {ls : ab_L} {st : List Value} {w : ab_W} (h : ab_isI (ls 4) = true) : ab_Run ab_mt 25 44 ls st w = ab_Run ab_mt 25 46 ls (ab_gv (ls 4) :: st) w := E_loadi (n := 2) rfl h
theorem e_25_46 {ls : ab_L} {st : List Value} {w : ab_W} {v0 v1 : Value} (h1 : ab_recv ab_mt 59 [v0, v1] w.2 = true) (h8 : ab_w8 st = true) : ab_Run ab_mt 25 46 ls (v1 :: v0 :: st) w = ab_aft 59 25 46 ls st (ab_Cl 59 [v0, v1] w) := E_call2 rfl h1 h8
theorem e_25_49 {ls : ab_L} {st : List Value} {w : ab_W} {x y : Int64} : ab_Run ab_mt 25 49 ls (.long y :: .long x :: st) w = ab_Run ab_mt 25 50 ls (.long (x - y) :: st) w := E_lb (f := fun x y => x - y) rfl
theorem e_25_50 {ls : ab_L} {st : List Value} {w : ab_W} {x : Int64} : ab_Run ab_mt 25 50 ls (.long x :: st) w = ab_Run ab_mt 25 52 (ab_l2 ls 5 (.long x)) st w := E_storl (n := 2) rfl
theorem e_25_52 {ls : ab_L} {st : List Value} {w : ab_W} (h : ab_isI (ls 3) = true) : ab_Run ab_mt 25 52 ls st w = ab_Run ab_mt 25 53 ls (ab_gv (ls 3) :: st) w := E_loadi (n := 1) rfl h
theorem e_25_53 {ls : ab_L} {st : List Value} {w : ab_W} {x : Int32} : ab_Run ab_mt 25 53 ls (.int x :: st) w = if x = 0 then ab_Run ab_mt 25 56 ls st w else ab_Run ab_mt 25 59 ls st w := E_if_ne rfl
theorem e_25_56 {ls : ab_L} {st : List Value} {w : ab_W} (h : ab_isI (ls 4) = true) : ab_Run ab_mt 25 56 ls st w = ab_Run ab_mt 25 58 ls (ab_gv (ls 4) :: st) w := E_loadi (n := 2) rfl h
theorem e_25_58 {ls : ab_L} {w : ab_W} {x : Int32} : ab_Run ab_mt 25 58 ls [.int x] w = some (.inl (some (.int x)), w) := E_reti rfl
theorem e_25_59 {ls : ab_L} {st : List Value} {w : ab_W} (h : ab_isI (ls 3) = true) : ab_Run ab_mt 25 59 ls st w = ab_Run ab_mt 25 60 ls (ab_gv (ls 3) :: st) w := E_loadi (n := 1) rfl h
theorem e_25_60 {ls : ab_L} {st : List Value} {w : ab_W} : ab_Run ab_mt 25 60 ls st w = ab_Run ab_mt 25 61 ls (.int (nI 1) :: st) w := E_push (n := 1) rfl
theorem e_25_61 {ls : ab_L} {st : List Value} {w : ab_W} {x y : Int32} : ab_Run ab_mt 25 61 ls (.int y :: .int x :: st) w = if x = y then ab_Run ab_mt 25 64 ls st w else ab_Run ab_mt 25 90 ls st w := E_ic_ne rfl
theorem e_25_64 {ls : ab_L} {st : List Value} {w : ab_W} (h : ab_isL (ls 5) = true) (h2 : (ls 6).isNone = true) : ab_Run ab_mt 25 64 ls st w = ab_Run ab_mt 25 66 ls (ab_gv (ls 5) :: st) w := E_loadl (n := 2) rfl h h2
theorem e_25_66 {ls : ab_L} {st : List Value} {w : ab_W} : ab_Run ab_mt 25 66 ls st w = ab_Run ab_mt 25 69 ls (.long (lN 480) :: st) w := E_push (n := 3) rfl
theorem e_25_69 {ls : ab_L} {st : List Value} {w : ab_W} {x y : Int64} : ab_Run ab_mt 25 69 ls (.long y :: .long x :: st) w = ab_Run ab_mt 25 70 ls (.long (x * y) :: st) w := E_lb (f := fun x y => x * y) rfl
theorem e_25_70 {ls : ab_L} {st : List Value} {w : ab_W} (h : ab_isR (ls 0) = true) : ab_Run ab_mt 25 70 ls st w = ab_Run ab_mt 25 71 ls (ab_gv (ls 0) :: st) w := E_loadr (n := 1) rfl h
theorem e_25_71 {ls : ab_L} {st : List Value} {w : ab_W} {a : Nat} (h : ab_isF 0 0 (w.2 a) = true) : ab_Run ab_mt 25 71 ls (.ref a :: st) w = ab_Run ab_mt 25 74 ls (ab_fv 0 (w.2 a) :: st) w := E_get rfl h
theorem e_25_74 {ls : ab_L} {st : List Value} {w : ab_W} (h : ab_isI (ls 4) = true) : ab_Run ab_mt 25 74 ls st w = ab_Run ab_mt 25 76 ls (ab_gv (ls 4) :: st) w := E_loadi (n := 2) rfl h
theorem e_25_76 {ls : ab_L} {st : List Value} {w : ab_W} {v0 v1 : Value} (h1 : ab_recv ab_mt 60 [v0, v1] w.2 = true) (h8 : ab_w8 st = true) : ab_Run ab_mt 25 76 ls (v1 :: v0 :: st) w = ab_aft 60 25 76 ls st (ab_Cl 60 [v0, v1] w) := E_call2 rfl h1 h8
theorem e_25_79 {ls : ab_L} {st : List Value} {w : ab_W} {v0 v1 : Value} (h1 : ab_recv ab_mt 43 [v0, v1] w.2 = true) (h8 : ab_w8 st = true) : ab_Run ab_mt 25 79 ls (v1 :: v0 :: st) w = ab_aft 43 25 79 ls st (ab_Cl 43 [v0, v1] w) := E_call2 rfl h1 h8
theorem e_25_82 {ls : ab_L} {st : List Value} {w : ab_W} : ab_Run ab_mt 25 82 ls st w = ab_Run ab_mt 25 85 ls (.long (lN 480) :: st) w := E_push (n := 3) rfl
theorem e_25_85 {ls : ab_L} {st : List Value} {w : ab_W} {x y : Int64} (h8 : ab_w8 st = true) : ab_Run ab_mt 25 85 ls (.long y :: .long x :: st) w = ab_Run ab_mt 25 88 ls (.long (if y < x then y else x) :: st) w := E_minl rfl h8
theorem e_25_88 {ls : ab_L} {st : List Value} {w : ab_W} {x : Int64} : ab_Run ab_mt 25 88 ls (.long x :: st) w = ab_Run ab_mt 25 89 ls (.int x.toInt32 :: st) w := E_l2i rfl
theorem e_25_89 {ls : ab_L} {w : ab_W} {x : Int32} : ab_Run ab_mt 25 89 ls [.int x] w = some (.inl (some (.int x)), w) := E_reti rfl
theorem e_25_90 {ls : ab_L} {st : List Value} {w : ab_W} (h : ab_isL (ls 5) = true) (h2 : (ls 6).isNone = true) : ab_Run ab_mt 25 90 ls st w = ab_Run ab_mt 25 92 ls (ab_gv (ls 5) :: st) w := E_loadl (n := 2) rfl h h2
theorem e_25_92 {ls : ab_L} {st : List Value} {w : ab_W} (h : ab_isR (ls 0) = true) : ab_Run ab_mt 25 92 ls st w = ab_Run ab_mt 25 93 ls (ab_gv (ls 0) :: st) w := E_loadr (n := 1) rfl h
theorem e_25_93 {ls : ab_L} {st : List Value} {w : ab_W} {a : Nat} (h : ab_isF 0 0 (w.2 a) = true) : ab_Run ab_mt 25 93 ls (.ref a :: st) w = ab_Run ab_mt 25 96 ls (ab_fv 0 (w.2 a) :: st) w := E_get rfl h
theorem e_25_96 {ls : ab_L} {st : List Value} {w : ab_W} (h : ab_isI (ls 4) = true) : ab_Run ab_mt 25 96 ls st w = ab_Run ab_mt 25 98 ls (ab_gv (ls 4) :: st) w := E_loadi (n := 2) rfl h
theorem e_25_98 {ls : ab_L} {st : List Value} {w : ab_W} {v0 v1 : Value} (h1 : ab_recv ab_mt 60 [v0, v1] w.2 = true) (h8 : ab_w8 st = true) : ab_Run ab_mt 25 98 ls (v1 :: v0 :: st) w = ab_aft 60 25 98 ls st (ab_Cl 60 [v0, v1] w) := E_call2 rfl h1 h8
theorem e_25_101 {ls : ab_L} {st : List Value} {w : ab_W} {x y : Int64} : ab_Run ab_mt 25 101 ls (.long y :: .long x :: st) w = ab_Run ab_mt 25 102 ls (.int (lg_cmp x y) :: st) w := E_lcmp rfl
theorem e_25_102 {ls : ab_L} {st : List Value} {w : ab_W} {x : Int32} : ab_Run ab_mt 25 102 ls (.int x :: st) w = if x < 0 then ab_Run ab_mt 25 109 ls st w else ab_Run ab_mt 25 105 ls st w := E_if_lt rfl
theorem e_25_105 {ls : ab_L} {st : List Value} {w : ab_W} : ab_Run ab_mt 25 105 ls st w = ab_Run ab_mt 25 106 ls (.int (nI 1) :: st) w := E_push (n := 1) rfl
theorem e_25_106 {ls : ab_L} {st : List Value} {w : ab_W} : ab_Run ab_mt 25 106 ls st w = ab_Run ab_mt 25 110 ls st w := E_goto rfl
theorem e_25_109 {ls : ab_L} {st : List Value} {w : ab_W} : ab_Run ab_mt 25 109 ls st w = ab_Run ab_mt 25 110 ls (.int (nI 0) :: st) w := E_push (n := 1) rfl
theorem e_25_110 {ls : ab_L} {w : ab_W} {x : Int32} : ab_Run ab_mt 25 110 ls [.int x] w = some (.inl (some (.int x)), w) := E_reti rfl
theorem rv_25 {σ : ab_S} {t : Nat} {x0 : Int64} {x1 : Int32} : ab_recv ab_mt 25 [.ref t, .long x0, .int x1] σ = ab_isO 0 (σ t) := rfl
theorem x_25_6 {ls : ab_L} {rest : List Value} {E : Nat} {w : ab_W} : ab_aft 34 25 6 ls rest (some (.inr E, w)) = some (.inr E, w) := ab_aft_x rfl rfl (by unfold ab_hand; rfl)
theorem e_26_0 {ls : ab_L} {st : List Value} {w : ab_W} (h : ab_isI (ls 1) = true) : ab_Run ab_mt 26 0 ls st w = ab_Run ab_mt 26 1 ls (ab_gv (ls 1) :: st) w := E_loadi (n := 1) rfl h
theorem e_26_1 {ls : ab_L} {st : List Value} {w : ab_W} {x : Int32} : ab_Run ab_mt 26 1 ls (.int x :: st) w = ab_Run ab_mt 26 2 ls (.long x.toInt64 :: st) w := E_i2l rfl
theorem e_26_2 {ls : ab_L} {st : List Value} {w : ab_W} : ab_Run ab_mt 26 2 ls st w = ab_Run ab_mt 26 3 ls (.long (lN 0) :: st) w := E_push (n := 1) rfl
theorem e_26_3 {ls : ab_L} {st : List Value} {w : ab_W} : ab_Run ab_mt 26 3 ls st w = ab_Run ab_mt 26 6 ls (.long (lN 11) :: st) w := E_push (n := 3) rfl
theorem e_26_6 {ls : ab_L} {st : List Value} {w : ab_W} {v0 v1 v2 : Value} (h1 : ab_recv ab_mt 34 [v0, v1, v2] w.2 = true) (h8 : ab_w8 st = true) : ab_Run ab_mt 26 6 ls (v2 :: v1 :: v0 :: st) w = ab_aft 34 26 6 ls st (ab_Cl 34 [v0, v1, v2] w) := E_call3 rfl h1 h8
theorem e_26_9 {ls : ab_L} {st : List Value} {w : ab_W} (h : ab_isI (ls 1) = true) : ab_Run ab_mt 26 9 ls st w = ab_Run ab_mt 26 10 ls (ab_gv (ls 1) :: st) w := E_loadi (n := 1) rfl h
theorem e_26_10 {ls : ab_L} {st : List Value} {w : ab_W} {x : Int32} : ab_Run ab_mt 26 10 ls (.int x :: st) w = if x.toInt < 0 ∨ 10 < x.toInt then ab_Run ab_mt 26 180 ls st w else ab_Run ab_mt 26 (([68, 80, 89, 101, 113, 121, 129, 137, 146, 155, 171] : List Nat).getD (x.toInt - 0).toNat 0) ls st w := E_swi rfl (by decide)
theorem e_26_68 {ls : ab_L} {st : List Value} {w : ab_W} (h : ab_isR (ls 0) = true) : ab_Run ab_mt 26 68 ls st w = ab_Run ab_mt 26 69 ls (ab_gv (ls 0) :: st) w := E_loadr (n := 1) rfl h
theorem e_26_69 {ls : ab_L} {st : List Value} {w : ab_W} {a : Nat} (h : ab_isF 0 1 (w.2 a) = true) : ab_Run ab_mt 26 69 ls (.ref a :: st) w = ab_Run ab_mt 26 72 ls (ab_fv 1 (w.2 a) :: st) w := E_get rfl h
theorem e_26_72 {ls : ab_L} {st : List Value} {w : ab_W} {a : Nat} (h : ab_isF 2 0 (w.2 a) = true) : ab_Run ab_mt 26 72 ls (.ref a :: st) w = ab_Run ab_mt 26 75 ls (ab_fv 0 (w.2 a) :: st) w := E_get rfl h
theorem e_26_75 {ls : ab_L} {st : List Value} {w : ab_W} {a : Nat} (h : ab_isF 3 3 (w.2 a) = true) : ab_Run ab_mt 26 75 ls (.ref a :: st) w = ab_Run ab_mt 26 78 ls (ab_fv 3 (w.2 a) :: st) w := E_get rfl h
theorem e_26_78 {ls : ab_L} {st : List Value} {w : ab_W} {x : Int32} : ab_Run ab_mt 26 78 ls (.int x :: st) w = ab_Run ab_mt 26 79 ls (.long x.toInt64 :: st) w := E_i2l rfl
theorem e_26_79 {ls : ab_L} {w : ab_W} {x : Int64} : ab_Run ab_mt 26 79 ls [.long x] w = some (.inl (some (.long x)), w) := E_retl rfl
theorem e_26_80 {ls : ab_L} {st : List Value} {w : ab_W} (h : ab_isR (ls 0) = true) : ab_Run ab_mt 26 80 ls st w = ab_Run ab_mt 26 81 ls (ab_gv (ls 0) :: st) w := E_loadr (n := 1) rfl h
theorem e_26_81 {ls : ab_L} {st : List Value} {w : ab_W} {a : Nat} (h : ab_isF 0 0 (w.2 a) = true) : ab_Run ab_mt 26 81 ls (.ref a :: st) w = ab_Run ab_mt 26 84 ls (ab_fv 0 (w.2 a) :: st) w := E_get rfl h
theorem e_26_84 {ls : ab_L} {st : List Value} {w : ab_W} {a : Nat} (h : ab_isF 1 6 (w.2 a) = true) : ab_Run ab_mt 26 84 ls (.ref a :: st) w = ab_Run ab_mt 26 87 ls (ab_fv 6 (w.2 a) :: st) w := E_get rfl h
theorem e_26_87 {ls : ab_L} {st : List Value} {w : ab_W} {x : Int32} : ab_Run ab_mt 26 87 ls (.int x :: st) w = ab_Run ab_mt 26 88 ls (.long x.toInt64 :: st) w := E_i2l rfl
theorem e_26_88 {ls : ab_L} {w : ab_W} {x : Int64} : ab_Run ab_mt 26 88 ls [.long x] w = some (.inl (some (.long x)), w) := E_retl rfl
theorem e_26_89 {ls : ab_L} {st : List Value} {w : ab_W} (h : ab_isR (ls 0) = true) : ab_Run ab_mt 26 89 ls st w = ab_Run ab_mt 26 90 ls (ab_gv (ls 0) :: st) w := E_loadr (n := 1) rfl h
theorem e_26_90 {ls : ab_L} {st : List Value} {w : ab_W} {a : Nat} (h : ab_isF 0 1 (w.2 a) = true) : ab_Run ab_mt 26 90 ls (.ref a :: st) w = ab_Run ab_mt 26 93 ls (ab_fv 1 (w.2 a) :: st) w := E_get rfl h
theorem e_26_93 {ls : ab_L} {st : List Value} {w : ab_W} {a : Nat} (h : ab_isF 2 1 (w.2 a) = true) : ab_Run ab_mt 26 93 ls (.ref a :: st) w = ab_Run ab_mt 26 96 ls (ab_fv 1 (w.2 a) :: st) w := E_get rfl h
theorem e_26_96 {ls : ab_L} {st : List Value} {w : ab_W} {a : Nat} (h : ab_isF 3 3 (w.2 a) = true) : ab_Run ab_mt 26 96 ls (.ref a :: st) w = ab_Run ab_mt 26 99 ls (ab_fv 3 (w.2 a) :: st) w := E_get rfl h
theorem e_26_99 {ls : ab_L} {st : List Value} {w : ab_W} {x : Int32} : ab_Run ab_mt 26 99 ls (.int x :: st) w = ab_Run ab_mt 26 100 ls (.long x.toInt64 :: st) w := E_i2l rfl
theorem e_26_100 {ls : ab_L} {w : ab_W} {x : Int64} : ab_Run ab_mt 26 100 ls [.long x] w = some (.inl (some (.long x)), w) := E_retl rfl
theorem e_26_101 {ls : ab_L} {st : List Value} {w : ab_W} (h : ab_isR (ls 0) = true) : ab_Run ab_mt 26 101 ls st w = ab_Run ab_mt 26 102 ls (ab_gv (ls 0) :: st) w := E_loadr (n := 1) rfl h
theorem e_26_102 {ls : ab_L} {st : List Value} {w : ab_W} {a : Nat} (h : ab_isF 0 1 (w.2 a) = true) : ab_Run ab_mt 26 102 ls (.ref a :: st) w = ab_Run ab_mt 26 105 ls (ab_fv 1 (w.2 a) :: st) w := E_get rfl h
theorem e_26_105 {ls : ab_L} {st : List Value} {w : ab_W} {a : Nat} (h : ab_isF 2 2 (w.2 a) = true) : ab_Run ab_mt 26 105 ls (.ref a :: st) w = ab_Run ab_mt 26 108 ls (ab_fv 2 (w.2 a) :: st) w := E_get rfl h
theorem e_26_108 {ls : ab_L} {st : List Value} {w : ab_W} {a : Nat} (h : ab_isF 3 3 (w.2 a) = true) : ab_Run ab_mt 26 108 ls (.ref a :: st) w = ab_Run ab_mt 26 111 ls (ab_fv 3 (w.2 a) :: st) w := E_get rfl h
theorem e_26_111 {ls : ab_L} {st : List Value} {w : ab_W} {x : Int32} : ab_Run ab_mt 26 111 ls (.int x :: st) w = ab_Run ab_mt 26 112 ls (.long x.toInt64 :: st) w := E_i2l rfl
theorem e_26_112 {ls : ab_L} {w : ab_W} {x : Int64} : ab_Run ab_mt 26 112 ls [.long x] w = some (.inl (some (.long x)), w) := E_retl rfl
theorem e_26_113 {ls : ab_L} {st : List Value} {w : ab_W} (h : ab_isR (ls 0) = true) : ab_Run ab_mt 26 113 ls st w = ab_Run ab_mt 26 114 ls (ab_gv (ls 0) :: st) w := E_loadr (n := 1) rfl h
theorem e_26_114 {ls : ab_L} {st : List Value} {w : ab_W} {a : Nat} (h : ab_isF 0 0 (w.2 a) = true) : ab_Run ab_mt 26 114 ls (.ref a :: st) w = ab_Run ab_mt 26 117 ls (ab_fv 0 (w.2 a) :: st) w := E_get rfl h
theorem e_26_117 {ls : ab_L} {st : List Value} {w : ab_W} {v0 : Value} (h1 : ab_recv ab_mt 67 [v0] w.2 = true) (h8 : ab_w8 st = true) : ab_Run ab_mt 26 117 ls (v0 :: st) w = ab_aft 67 26 117 ls st (ab_Cl 67 [v0] w) := E_call1 rfl h1 h8
theorem e_26_120 {ls : ab_L} {w : ab_W} {x : Int64} : ab_Run ab_mt 26 120 ls [.long x] w = some (.inl (some (.long x)), w) := E_retl rfl
theorem e_26_121 {ls : ab_L} {st : List Value} {w : ab_W} (h : ab_isR (ls 0) = true) : ab_Run ab_mt 26 121 ls st w = ab_Run ab_mt 26 122 ls (ab_gv (ls 0) :: st) w := E_loadr (n := 1) rfl h
theorem e_26_122 {ls : ab_L} {st : List Value} {w : ab_W} {a : Nat} (h : ab_isF 0 0 (w.2 a) = true) : ab_Run ab_mt 26 122 ls (.ref a :: st) w = ab_Run ab_mt 26 125 ls (ab_fv 0 (w.2 a) :: st) w := E_get rfl h
theorem e_26_125 {ls : ab_L} {st : List Value} {w : ab_W} {a : Nat} (h : ab_isF 1 7 (w.2 a) = true) : ab_Run ab_mt 26 125 ls (.ref a :: st) w = ab_Run ab_mt 26 128 ls (ab_fv 7 (w.2 a) :: st) w := E_get rfl h
theorem e_26_128 {ls : ab_L} {w : ab_W} {x : Int64} : ab_Run ab_mt 26 128 ls [.long x] w = some (.inl (some (.long x)), w) := E_retl rfl
theorem e_26_129 {ls : ab_L} {st : List Value} {w : ab_W} (h : ab_isR (ls 0) = true) : ab_Run ab_mt 26 129 ls st w = ab_Run ab_mt 26 130 ls (ab_gv (ls 0) :: st) w := E_loadr (n := 1) rfl h
theorem e_26_130 {ls : ab_L} {st : List Value} {w : ab_W} {a : Nat} (h : ab_isF 0 0 (w.2 a) = true) : ab_Run ab_mt 26 130 ls (.ref a :: st) w = ab_Run ab_mt 26 133 ls (ab_fv 0 (w.2 a) :: st) w := E_get rfl h
theorem e_26_133 {ls : ab_L} {st : List Value} {w : ab_W} {v0 : Value} (h1 : ab_recv ab_mt 68 [v0] w.2 = true) (h8 : ab_w8 st = true) : ab_Run ab_mt 26 133 ls (v0 :: st) w = ab_aft 68 26 133 ls st (ab_Cl 68 [v0] w) := E_call1 rfl h1 h8
theorem e_26_136 {ls : ab_L} {w : ab_W} {x : Int64} : ab_Run ab_mt 26 136 ls [.long x] w = some (.inl (some (.long x)), w) := E_retl rfl
theorem e_26_137 {ls : ab_L} {st : List Value} {w : ab_W} (h : ab_isR (ls 0) = true) : ab_Run ab_mt 26 137 ls st w = ab_Run ab_mt 26 138 ls (ab_gv (ls 0) :: st) w := E_loadr (n := 1) rfl h
theorem e_26_138 {ls : ab_L} {st : List Value} {w : ab_W} {a : Nat} (h : ab_isF 0 0 (w.2 a) = true) : ab_Run ab_mt 26 138 ls (.ref a :: st) w = ab_Run ab_mt 26 141 ls (ab_fv 0 (w.2 a) :: st) w := E_get rfl h
theorem e_26_141 {ls : ab_L} {st : List Value} {w : ab_W} : ab_Run ab_mt 26 141 ls st w = ab_Run ab_mt 26 142 ls (.int (nI 1) :: st) w := E_push (n := 1) rfl
theorem e_26_142 {ls : ab_L} {st : List Value} {w : ab_W} {v0 v1 : Value} (h1 : ab_recv ab_mt 69 [v0, v1] w.2 = true) (h8 : ab_w8 st = true) : ab_Run ab_mt 26 142 ls (v1 :: v0 :: st) w = ab_aft 69 26 142 ls st (ab_Cl 69 [v0, v1] w) := E_call2 rfl h1 h8
theorem e_26_145 {ls : ab_L} {w : ab_W} {x : Int64} : ab_Run ab_mt 26 145 ls [.long x] w = some (.inl (some (.long x)), w) := E_retl rfl
theorem e_26_146 {ls : ab_L} {st : List Value} {w : ab_W} (h : ab_isR (ls 0) = true) : ab_Run ab_mt 26 146 ls st w = ab_Run ab_mt 26 147 ls (ab_gv (ls 0) :: st) w := E_loadr (n := 1) rfl h
theorem e_26_147 {ls : ab_L} {st : List Value} {w : ab_W} {a : Nat} (h : ab_isF 0 0 (w.2 a) = true) : ab_Run ab_mt 26 147 ls (.ref a :: st) w = ab_Run ab_mt 26 150 ls (ab_fv 0 (w.2 a) :: st) w := E_get rfl h
theorem e_26_150 {ls : ab_L} {st : List Value} {w : ab_W} : ab_Run ab_mt 26 150 ls st w = ab_Run ab_mt 26 151 ls (.int (nI 0) :: st) w := E_push (n := 1) rfl
theorem e_26_151 {ls : ab_L} {st : List Value} {w : ab_W} {v0 v1 : Value} (h1 : ab_recv ab_mt 69 [v0, v1] w.2 = true) (h8 : ab_w8 st = true) : ab_Run ab_mt 26 151 ls (v1 :: v0 :: st) w = ab_aft 69 26 151 ls st (ab_Cl 69 [v0, v1] w) := E_call2 rfl h1 h8
theorem e_26_154 {ls : ab_L} {w : ab_W} {x : Int64} : ab_Run ab_mt 26 154 ls [.long x] w = some (.inl (some (.long x)), w) := E_retl rfl
theorem e_26_155 {ls : ab_L} {st : List Value} {w : ab_W} (h : ab_isR (ls 0) = true) : ab_Run ab_mt 26 155 ls st w = ab_Run ab_mt 26 156 ls (ab_gv (ls 0) :: st) w := E_loadr (n := 1) rfl h
theorem e_26_156 {ls : ab_L} {st : List Value} {w : ab_W} {a : Nat} (h : ab_isF 0 2 (w.2 a) = true) : ab_Run ab_mt 26 156 ls (.ref a :: st) w = ab_Run ab_mt 26 159 ls (ab_fv 2 (w.2 a) :: st) w := E_get rfl h
theorem e_26_159 {ls : ab_L} {st : List Value} {w : ab_W} {a : Nat} (h : ab_isF 4 6 (w.2 a) = true) : ab_Run ab_mt 26 159 ls (.ref a :: st) w = ab_Run ab_mt 26 162 ls (ab_fv 6 (w.2 a) :: st) w := E_get rfl h
theorem e_26_162 {ls : ab_L} {st : List Value} {w : ab_W} {x : Int32} : ab_Run ab_mt 26 162 ls (.int x :: st) w = if x = 0 then ab_Run ab_mt 26 169 ls st w else ab_Run ab_mt 26 165 ls st w := E_if_eq rfl
theorem e_26_165 {ls : ab_L} {st : List Value} {w : ab_W} : ab_Run ab_mt 26 165 ls st w = ab_Run ab_mt 26 166 ls (.long (lN 1) :: st) w := E_push (n := 1) rfl
theorem e_26_166 {ls : ab_L} {st : List Value} {w : ab_W} : ab_Run ab_mt 26 166 ls st w = ab_Run ab_mt 26 170 ls st w := E_goto rfl
theorem e_26_169 {ls : ab_L} {st : List Value} {w : ab_W} : ab_Run ab_mt 26 169 ls st w = ab_Run ab_mt 26 170 ls (.long (lN 0) :: st) w := E_push (n := 1) rfl
theorem e_26_170 {ls : ab_L} {w : ab_W} {x : Int64} : ab_Run ab_mt 26 170 ls [.long x] w = some (.inl (some (.long x)), w) := E_retl rfl
theorem e_26_171 {ls : ab_L} {st : List Value} {w : ab_W} (h : ab_isR (ls 0) = true) : ab_Run ab_mt 26 171 ls st w = ab_Run ab_mt 26 172 ls (ab_gv (ls 0) :: st) w := E_loadr (n := 1) rfl h
theorem e_26_172 {ls : ab_L} {st : List Value} {w : ab_W} {a : Nat} (h : ab_isF 0 3 (w.2 a) = true) : ab_Run ab_mt 26 172 ls (.ref a :: st) w = ab_Run ab_mt 26 175 ls (ab_fv 3 (w.2 a) :: st) w := E_get rfl h
theorem e_26_175 {ls : ab_L} {st : List Value} {w : ab_W} {a : Nat} (h : ab_isF 5 1 (w.2 a) = true) : ab_Run ab_mt 26 175 ls (.ref a :: st) w = ab_Run ab_mt 26 178 ls (ab_fv 1 (w.2 a) :: st) w := E_get rfl h
theorem e_26_178 {ls : ab_L} {st : List Value} {w : ab_W} {x : Int32} : ab_Run ab_mt 26 178 ls (.int x :: st) w = ab_Run ab_mt 26 179 ls (.long x.toInt64 :: st) w := E_i2l rfl
theorem e_26_179 {ls : ab_L} {w : ab_W} {x : Int64} : ab_Run ab_mt 26 179 ls [.long x] w = some (.inl (some (.long x)), w) := E_retl rfl
theorem e_26_180 {ls : ab_L} {st : List Value} {w : ab_W} (h : ab_isR (ls 0) = true) : ab_Run ab_mt 26 180 ls st w = ab_Run ab_mt 26 181 ls (ab_gv (ls 0) :: st) w := E_loadr (n := 1) rfl h
theorem e_26_181 {ls : ab_L} {st : List Value} {w : ab_W} {a : Nat} (h : ab_isF 0 5 (w.2 a) = true) : ab_Run ab_mt 26 181 ls (.ref a :: st) w = ab_Run ab_mt 26 184 ls (ab_fv 5 (w.2 a) :: st) w := E_get rfl h
theorem e_26_184 {ls : ab_L} {st : List Value} {w : ab_W} {x : Int32} : ab_Run ab_mt 26 184 ls (.int x :: st) w = ab_Run ab_mt 26 185 ls (.long x.toInt64 :: st) w := E_i2l rfl
theorem e_26_185 {ls : ab_L} {w : ab_W} {x : Int64} : ab_Run ab_mt 26 185 ls [.long x] w = some (.inl (some (.long x)), w) := E_retl rfl
theorem rv_26 {σ : ab_S} {t : Nat} {x0 : Int32} : ab_recv ab_mt 26 [.ref t, .int x0] σ = ab_isO 0 (σ t) := rfl
theorem x_26_6 {ls : ab_L} {rest : List Value} {E : Nat} {w : ab_W} : ab_aft 34 26 6 ls rest (some (.inr E, w)) = some (.inr E, w) := ab_aft_x rfl rfl (by unfold ab_hand; rfl)
theorem e_27_0 {ls : ab_L} {st : List Value} {w : ab_W} (h : ab_isI (ls 1) = true) : ab_Run ab_mt 27 0 ls st w = ab_Run ab_mt 27 1 ls (ab_gv (ls 1) :: st) w := E_loadi (n := 1) rfl h
theorem e_27_1 {ls : ab_L} {st : List Value} {w : ab_W} (h : ab_isR (ls 0) = true) : ab_Run ab_mt 27 1 ls st w = ab_Run ab_mt 27 2 ls (ab_gv (ls 0) :: st) w := E_loadr (n := 1) rfl h
theorem e_27_2 {ls : ab_L} {st : List Value} {w : ab_W} {a : Nat} (h : ab_isF 0 1 (w.2 a) = true) : ab_Run ab_mt 27 2 ls (.ref a :: st) w = ab_Run ab_mt 27 5 ls (ab_fv 1 (w.2 a) :: st) w := E_get rfl h
theorem e_27_5 {ls : ab_L} {st : List Value} {w : ab_W} {a : Nat} (h : ab_isF 2 0 (w.2 a) = true) : ab_Run ab_mt 27 5 ls (.ref a :: st) w = ab_Run ab_mt 27 8 ls (ab_fv 0 (w.2 a) :: st) w := E_get rfl h
theorem e_27_8 {ls : ab_L} {st : List Value} {w : ab_W} {a : Nat} (h : ab_isF 3 3 (w.2 a) = true) : ab_Run ab_mt 27 8 ls (.ref a :: st) w = ab_Run ab_mt 27 11 ls (ab_fv 3 (w.2 a) :: st) w := E_get rfl h
theorem e_27_11 {ls : ab_L} {st : List Value} {w : ab_W} {v0 v1 : Value} (h1 : ab_recv ab_mt 33 [v0, v1] w.2 = true) (h8 : ab_w8 st = true) : ab_Run ab_mt 27 11 ls (v1 :: v0 :: st) w = ab_aft 33 27 11 ls st (ab_Cl 33 [v0, v1] w) := E_call2 rfl h1 h8
theorem e_27_14 {ls : ab_L} {st : List Value} {w : ab_W} (h : ab_isL (ls 2) = true) (h2 : (ls 3).isNone = true) : ab_Run ab_mt 27 14 ls st w = ab_Run ab_mt 27 15 ls (ab_gv (ls 2) :: st) w := E_loadl (n := 1) rfl h h2
theorem e_27_15 {ls : ab_L} {st : List Value} {w : ab_W} : ab_Run ab_mt 27 15 ls st w = ab_Run ab_mt 27 16 ls (.long (lN 1) :: st) w := E_push (n := 1) rfl
theorem e_27_16 {ls : ab_L} {st : List Value} {w : ab_W} : ab_Run ab_mt 27 16 ls st w = ab_Run ab_mt 27 19 ls (.long (lN 1000000000) :: st) w := E_push (n := 3) rfl
theorem e_27_19 {ls : ab_L} {st : List Value} {w : ab_W} {v0 v1 v2 : Value} (h1 : ab_recv ab_mt 34 [v0, v1, v2] w.2 = true) (h8 : ab_w8 st = true) : ab_Run ab_mt 27 19 ls (v2 :: v1 :: v0 :: st) w = ab_aft 34 27 19 ls st (ab_Cl 34 [v0, v1, v2] w) := E_call3 rfl h1 h8
theorem e_27_22 {ls : ab_L} {st : List Value} {w : ab_W} (h : ab_isR (ls 0) = true) : ab_Run ab_mt 27 22 ls st w = ab_Run ab_mt 27 23 ls (ab_gv (ls 0) :: st) w := E_loadr (n := 1) rfl h
theorem e_27_23 {ls : ab_L} {st : List Value} {w : ab_W} {a : Nat} (h : ab_isF 0 0 (w.2 a) = true) : ab_Run ab_mt 27 23 ls (.ref a :: st) w = ab_Run ab_mt 27 26 ls (ab_fv 0 (w.2 a) :: st) w := E_get rfl h
theorem e_27_26 {ls : ab_L} {st : List Value} {w : ab_W} {a : Nat} (h : ab_isF 1 7 (w.2 a) = true) : ab_Run ab_mt 27 26 ls (.ref a :: st) w = ab_Run ab_mt 27 29 ls (ab_fv 7 (w.2 a) :: st) w := E_get rfl h
theorem e_27_29 {ls : ab_L} {st : List Value} {w : ab_W} (h : ab_isR (ls 0) = true) : ab_Run ab_mt 27 29 ls st w = ab_Run ab_mt 27 30 ls (ab_gv (ls 0) :: st) w := E_loadr (n := 1) rfl h
theorem e_27_30 {ls : ab_L} {st : List Value} {w : ab_W} {a : Nat} (h : ab_isF 0 0 (w.2 a) = true) : ab_Run ab_mt 27 30 ls (.ref a :: st) w = ab_Run ab_mt 27 33 ls (ab_fv 0 (w.2 a) :: st) w := E_get rfl h
theorem e_27_33 {ls : ab_L} {st : List Value} {w : ab_W} (h : ab_isR (ls 0) = true) : ab_Run ab_mt 27 33 ls st w = ab_Run ab_mt 27 34 ls (ab_gv (ls 0) :: st) w := E_loadr (n := 1) rfl h
theorem e_27_34 {ls : ab_L} {st : List Value} {w : ab_W} {a : Nat} (h : ab_isF 0 0 (w.2 a) = true) : ab_Run ab_mt 27 34 ls (.ref a :: st) w = ab_Run ab_mt 27 37 ls (ab_fv 0 (w.2 a) :: st) w := E_get rfl h
theorem e_27_37 {ls : ab_L} {st : List Value} {w : ab_W} (h : ab_isI (ls 1) = true) : ab_Run ab_mt 27 37 ls st w = ab_Run ab_mt 27 38 ls (ab_gv (ls 1) :: st) w := E_loadi (n := 1) rfl h
theorem e_27_38 {ls : ab_L} {st : List Value} {w : ab_W} {v0 v1 : Value} (h1 : ab_recv ab_mt 54 [v0, v1] w.2 = true) (h8 : ab_w8 st = true) : ab_Run ab_mt 27 38 ls (v1 :: v0 :: st) w = ab_aft 54 27 38 ls st (ab_Cl 54 [v0, v1] w) := E_call2 rfl h1 h8
theorem e_27_41 {ls : ab_L} {st : List Value} {w : ab_W} {v0 v1 : Value} (h1 : ab_recv ab_mt 59 [v0, v1] w.2 = true) (h8 : ab_w8 st = true) : ab_Run ab_mt 27 41 ls (v1 :: v0 :: st) w = ab_aft 59 27 41 ls st (ab_Cl 59 [v0, v1] w) := E_call2 rfl h1 h8
theorem e_27_44 {ls : ab_L} {st : List Value} {w : ab_W} {x y : Int64} : ab_Run ab_mt 27 44 ls (.long y :: .long x :: st) w = ab_Run ab_mt 27 45 ls (.long (x - y) :: st) w := E_lb (f := fun x y => x - y) rfl
theorem e_27_45 {ls : ab_L} {st : List Value} {w : ab_W} {x : Int64} : ab_Run ab_mt 27 45 ls (.long x :: st) w = ab_Run ab_mt 27 47 (ab_l2 ls 4 (.long x)) st w := E_storl (n := 2) rfl
theorem e_27_47 {ls : ab_L} {st : List Value} {w : ab_W} : ab_Run ab_mt 27 47 ls st w = ab_Run ab_mt 27 49 ls (.int (nI 50) :: st) w := E_push (n := 2) rfl
theorem e_27_49 {ls : ab_L} {st : List Value} {w : ab_W} {x : Int32} : ab_Run ab_mt 27 49 ls (.int x :: st) w = ab_Run ab_mt 27 51 (ab_l1 ls 6 (.int x)) st w := E_stori (n := 2) rfl
theorem e_27_51 {ls : ab_L} {st : List Value} {w : ab_W} : ab_Run ab_mt 27 51 ls st w = ab_Run ab_mt 27 53 ls (.int (nI 51) :: st) w := E_push (n := 2) rfl
theorem e_27_53 {ls : ab_L} {st : List Value} {w : ab_W} {x : Int32} : ab_Run ab_mt 27 53 ls (.int x :: st) w = ab_Run ab_mt 27 55 (ab_l1 ls 7 (.int x)) st w := E_stori (n := 2) rfl
theorem e_27_55 {ls : ab_L} {st : List Value} {w : ab_W} (h : ab_isI (ls 7) = true) : ab_Run ab_mt 27 55 ls st w = ab_Run ab_mt 27 57 ls (ab_gv (ls 7) :: st) w := E_loadi (n := 2) rfl h
theorem e_27_57 {ls : ab_L} {st : List Value} {w : ab_W} : ab_Run ab_mt 27 57 ls st w = ab_Run ab_mt 27 60 ls (.int (nI 200) :: st) w := E_push (n := 3) rfl
theorem e_27_60 {ls : ab_L} {st : List Value} {w : ab_W} {x y : Int32} : ab_Run ab_mt 27 60 ls (.int y :: .int x :: st) w = if y < x then ab_Run ab_mt 27 99 ls st w else ab_Run ab_mt 27 63 ls st w := E_ic_gt rfl
theorem e_27_63 {ls : ab_L} {st : List Value} {w : ab_W} (h : ab_isL (ls 4) = true) (h2 : (ls 5).isNone = true) : ab_Run ab_mt 27 63 ls st w = ab_Run ab_mt 27 65 ls (ab_gv (ls 4) :: st) w := E_loadl (n := 2) rfl h h2
theorem e_27_65 {ls : ab_L} {st : List Value} {w : ab_W} (h : ab_isI (ls 7) = true) : ab_Run ab_mt 27 65 ls st w = ab_Run ab_mt 27 67 ls (ab_gv (ls 7) :: st) w := E_loadi (n := 2) rfl h
theorem e_27_67 {ls : ab_L} {st : List Value} {w : ab_W} {v0 v1 : Value} (h1 : ab_recv ab_mt 44 [v0, v1] w.2 = true) (h8 : ab_w8 st = true) : ab_Run ab_mt 27 67 ls (v1 :: v0 :: st) w = ab_aft 44 27 67 ls st (ab_Cl 44 [v0, v1] w) := E_call2 rfl h1 h8
theorem e_27_70 {ls : ab_L} {st : List Value} {w : ab_W} (h : ab_isL (ls 2) = true) (h2 : (ls 3).isNone = true) : ab_Run ab_mt 27 70 ls st w = ab_Run ab_mt 27 71 ls (ab_gv (ls 2) :: st) w := E_loadl (n := 1) rfl h h2
theorem e_27_71 {ls : ab_L} {st : List Value} {w : ab_W} {v0 v1 : Value} (h1 : ab_recv ab_mt 45 [v0, v1] w.2 = true) (h8 : ab_w8 st = true) : ab_Run ab_mt 27 71 ls (v1 :: v0 :: st) w = ab_aft 45 27 71 ls st (ab_Cl 45 [v0, v1] w) := E_call2 rfl h1 h8
theorem e_27_74 {ls : ab_L} {st : List Value} {w : ab_W} (h : ab_isL (ls 4) = true) (h2 : (ls 5).isNone = true) : ab_Run ab_mt 27 74 ls st w = ab_Run ab_mt 27 76 ls (ab_gv (ls 4) :: st) w := E_loadl (n := 2) rfl h h2
theorem e_27_76 {ls : ab_L} {st : List Value} {w : ab_W} (h : ab_isI (ls 6) = true) : ab_Run ab_mt 27 76 ls st w = ab_Run ab_mt 27 78 ls (ab_gv (ls 6) :: st) w := E_loadi (n := 2) rfl h
theorem e_27_78 {ls : ab_L} {st : List Value} {w : ab_W} {v0 v1 : Value} (h1 : ab_recv ab_mt 44 [v0, v1] w.2 = true) (h8 : ab_w8 st = true) : ab_Run ab_mt 27 78 ls (v1 :: v0 :: st) w = ab_aft 44 27 78 ls st (ab_Cl 44 [v0, v1] w) := E_call2 rfl h1 h8
theorem e_27_81 {ls : ab_L} {st : List Value} {w : ab_W} (h : ab_isL (ls 2) = true) (h2 : (ls 3).isNone = true) : ab_Run ab_mt 27 81 ls st w = ab_Run ab_mt 27 82 ls (ab_gv (ls 2) :: st) w := E_loadl (n := 1) rfl h h2
theorem e_27_82 {ls : ab_L} {st : List Value} {w : ab_W} {v0 v1 : Value} (h1 : ab_recv ab_mt 45 [v0, v1] w.2 = true) (h8 : ab_w8 st = true) : ab_Run ab_mt 27 82 ls (v1 :: v0 :: st) w = ab_aft 45 27 82 ls st (ab_Cl 45 [v0, v1] w) := E_call2 rfl h1 h8
theorem e_27_85 {ls : ab_L} {st : List Value} {w : ab_W} {x y : Int64} : ab_Run ab_mt 27 85 ls (.long y :: .long x :: st) w = ab_Run ab_mt 27 86 ls (.int (lg_cmp x y) :: st) w := E_lcmp rfl
theorem e_27_86 {ls : ab_L} {st : List Value} {w : ab_W} {x : Int32} : ab_Run ab_mt 27 86 ls (.int x :: st) w = if 0 ≤ x then ab_Run ab_mt 27 93 ls st w else ab_Run ab_mt 27 89 ls st w := E_if_ge rfl
theorem e_27_89 {ls : ab_L} {st : List Value} {w : ab_W} (h : ab_isI (ls 7) = true) : ab_Run ab_mt 27 89 ls st w = ab_Run ab_mt 27 91 ls (ab_gv (ls 7) :: st) w := E_loadi (n := 2) rfl h
theorem e_27_91 {ls : ab_L} {st : List Value} {w : ab_W} {x : Int32} : ab_Run ab_mt 27 91 ls (.int x :: st) w = ab_Run ab_mt 27 93 (ab_l1 ls 6 (.int x)) st w := E_stori (n := 2) rfl
theorem e_27_93 {ls : ab_L} {st : List Value} {w : ab_W} (h : ab_isI (ls 7) = true) : ab_Run ab_mt 27 93 ls st w = ab_Run ab_mt 27 96 (ab_l1 ls 7 (.int (ab_gi (ls 7) + (nI 1)))) st w := E_iinc rfl h
theorem e_27_96 {ls : ab_L} {st : List Value} {w : ab_W} : ab_Run ab_mt 27 96 ls st w = ab_Run ab_mt 27 55 ls st w := E_goto rfl
theorem e_27_99 {ls : ab_L} {st : List Value} {w : ab_W} (h : ab_isI (ls 6) = true) : ab_Run ab_mt 27 99 ls st w = ab_Run ab_mt 27 101 ls (ab_gv (ls 6) :: st) w := E_loadi (n := 2) rfl h
theorem e_27_101 {ls : ab_L} {w : ab_W} {x : Int32} : ab_Run ab_mt 27 101 ls [.int x] w = some (.inl (some (.int x)), w) := E_reti rfl
theorem rv_27 {σ : ab_S} {t : Nat} {x0 : Int32} {x1 : Int64} : ab_recv ab_mt 27 [.ref t, .int x0, .long x1] σ = ab_isO 0 (σ t) := rfl
theorem x_27_11 {ls : ab_L} {rest : List Value} {E : Nat} {w : ab_W} : ab_aft 33 27 11 ls rest (some (.inr E, w)) = some (.inr E, w) := ab_aft_x rfl rfl (by unfold ab_hand; rfl)
theorem x_27_19 {ls : ab_L} {rest : List Value} {E : Nat} {w : ab_W} : ab_aft 34 27 19 ls rest (some (.inr E, w)) = some (.inr E, w) := ab_aft_x rfl rfl (by unfold ab_hand; rfl)
theorem e_28_0 {ls : ab_L} {st : List Value} {w : ab_W} (h : ab_isI (ls 1) = true) : ab_Run ab_mt 28 0 ls st w = ab_Run ab_mt 28 1 ls (ab_gv (ls 1) :: st) w := E_loadi (n := 1) rfl h
theorem e_28_1 {ls : ab_L} {st : List Value} {w : ab_W} (h : ab_isR (ls 0) = true) : ab_Run ab_mt 28 1 ls st w = ab_Run ab_mt 28 2 ls (ab_gv (ls 0) :: st) w := E_loadr (n := 1) rfl h
theorem e_28_2 {ls : ab_L} {st : List Value} {w : ab_W} {a : Nat} (h : ab_isF 0 1 (w.2 a) = true) : ab_Run ab_mt 28 2 ls (.ref a :: st) w = ab_Run ab_mt 28 5 ls (ab_fv 1 (w.2 a) :: st) w := E_get rfl h
theorem e_28_5 {ls : ab_L} {st : List Value} {w : ab_W} {a : Nat} (h : ab_isF 2 0 (w.2 a) = true) : ab_Run ab_mt 28 5 ls (.ref a :: st) w = ab_Run ab_mt 28 8 ls (ab_fv 0 (w.2 a) :: st) w := E_get rfl h
theorem e_28_8 {ls : ab_L} {st : List Value} {w : ab_W} {a : Nat} (h : ab_isF 3 3 (w.2 a) = true) : ab_Run ab_mt 28 8 ls (.ref a :: st) w = ab_Run ab_mt 28 11 ls (ab_fv 3 (w.2 a) :: st) w := E_get rfl h
theorem e_28_11 {ls : ab_L} {st : List Value} {w : ab_W} {v0 v1 : Value} (h1 : ab_recv ab_mt 33 [v0, v1] w.2 = true) (h8 : ab_w8 st = true) : ab_Run ab_mt 28 11 ls (v1 :: v0 :: st) w = ab_aft 33 28 11 ls st (ab_Cl 33 [v0, v1] w) := E_call2 rfl h1 h8
theorem e_28_14 {ls : ab_L} {st : List Value} {w : ab_W} (h : ab_isL (ls 2) = true) (h2 : (ls 3).isNone = true) : ab_Run ab_mt 28 14 ls st w = ab_Run ab_mt 28 15 ls (ab_gv (ls 2) :: st) w := E_loadl (n := 1) rfl h h2
theorem e_28_15 {ls : ab_L} {st : List Value} {w : ab_W} : ab_Run ab_mt 28 15 ls st w = ab_Run ab_mt 28 16 ls (.long (lN 1) :: st) w := E_push (n := 1) rfl
theorem e_28_16 {ls : ab_L} {st : List Value} {w : ab_W} : ab_Run ab_mt 28 16 ls st w = ab_Run ab_mt 28 19 ls (.long (lN 1000000000) :: st) w := E_push (n := 3) rfl
theorem e_28_19 {ls : ab_L} {st : List Value} {w : ab_W} {v0 v1 v2 : Value} (h1 : ab_recv ab_mt 34 [v0, v1, v2] w.2 = true) (h8 : ab_w8 st = true) : ab_Run ab_mt 28 19 ls (v2 :: v1 :: v0 :: st) w = ab_aft 34 28 19 ls st (ab_Cl 34 [v0, v1, v2] w) := E_call3 rfl h1 h8
theorem e_28_22 {ls : ab_L} {st : List Value} {w : ab_W} (h : ab_isL (ls 2) = true) (h2 : (ls 3).isNone = true) : ab_Run ab_mt 28 22 ls st w = ab_Run ab_mt 28 23 ls (ab_gv (ls 2) :: st) w := E_loadl (n := 1) rfl h h2
theorem e_28_23 {ls : ab_L} {st : List Value} {w : ab_W} (h : ab_isR (ls 0) = true) : ab_Run ab_mt 28 23 ls st w = ab_Run ab_mt 28 24 ls (ab_gv (ls 0) :: st) w := E_loadr (n := 1) rfl h
theorem e_28_24 {ls : ab_L} {st : List Value} {w : ab_W} {a : Nat} (h : ab_isF 0 0 (w.2 a) = true) : ab_Run ab_mt 28 24 ls (.ref a :: st) w = ab_Run ab_mt 28 27 ls (ab_fv 0 (w.2 a) :: st) w := E_get rfl h
theorem e_28_27 {ls : ab_L} {st : List Value} {w : ab_W} {a : Nat} (h : ab_isF 1 7 (w.2 a) = true) : ab_Run ab_mt 28 27 ls (.ref a :: st) w = ab_Run ab_mt 28 30 ls (ab_fv 7 (w.2 a) :: st) w := E_get rfl h
theorem e_28_30 {ls : ab_L} {st : List Value} {w : ab_W} (h : ab_isR (ls 0) = true) : ab_Run ab_mt 28 30 ls st w = ab_Run ab_mt 28 31 ls (ab_gv (ls 0) :: st) w := E_loadr (n := 1) rfl h
theorem e_28_31 {ls : ab_L} {st : List Value} {w : ab_W} {a : Nat} (h : ab_isF 0 0 (w.2 a) = true) : ab_Run ab_mt 28 31 ls (.ref a :: st) w = ab_Run ab_mt 28 34 ls (ab_fv 0 (w.2 a) :: st) w := E_get rfl h
theorem e_28_34 {ls : ab_L} {st : List Value} {w : ab_W} (h : ab_isI (ls 1) = true) : ab_Run ab_mt 28 34 ls st w = ab_Run ab_mt 28 35 ls (ab_gv (ls 1) :: st) w := E_loadi (n := 1) rfl h
theorem e_28_35 {ls : ab_L} {st : List Value} {w : ab_W} {v0 v1 : Value} (h1 : ab_recv ab_mt 70 [v0, v1] w.2 = true) (h8 : ab_w8 st = true) : ab_Run ab_mt 28 35 ls (v1 :: v0 :: st) w = ab_aft 70 28 35 ls st (ab_Cl 70 [v0, v1] w) := E_call2 rfl h1 h8
theorem e_28_38 {ls : ab_L} {st : List Value} {w : ab_W} {x y : Int64} : ab_Run ab_mt 28 38 ls (.long y :: .long x :: st) w = ab_Run ab_mt 28 39 ls (.long (x - y) :: st) w := E_lb (f := fun x y => x - y) rfl
theorem e_28_39 {ls : ab_L} {st : List Value} {w : ab_W} {x y : Int64} : ab_Run ab_mt 28 39 ls (.long y :: .long x :: st) w = ab_Run ab_mt 28 40 ls (.long (x - y) :: st) w := E_lb (f := fun x y => x - y) rfl
theorem e_28_40 {ls : ab_L} {st : List Value} {w : ab_W} {x : Int64} : ab_Run ab_mt 28 40 ls (.long x :: st) w = ab_Run ab_mt 28 42 (ab_l2 ls 4 (.long x)) st w := E_storl (n := 2) rfl
theorem e_28_42 {ls : ab_L} {st : List Value} {w : ab_W} (h : ab_isL (ls 4) = true) (h2 : (ls 5).isNone = true) : ab_Run ab_mt 28 42 ls st w = ab_Run ab_mt 28 44 ls (ab_gv (ls 4) :: st) w := E_loadl (n := 2) rfl h h2
theorem e_28_44 {ls : ab_L} {st : List Value} {w : ab_W} : ab_Run ab_mt 28 44 ls st w = ab_Run ab_mt 28 45 ls (.long (lN 0) :: st) w := E_push (n := 1) rfl
theorem e_28_45 {ls : ab_L} {st : List Value} {w : ab_W} {x y : Int64} (h8 : ab_w8 st = true) : ab_Run ab_mt 28 45 ls (.long y :: .long x :: st) w = ab_Run ab_mt 28 48 ls (.long (if y < x then x else y) :: st) w := E_maxl rfl h8
theorem e_28_48 {ls : ab_L} {st : List Value} {w : ab_W} : ab_Run ab_mt 28 48 ls st w = ab_Run ab_mt 28 51 ls (.long (lN 1000) :: st) w := E_push (n := 3) rfl
theorem e_28_51 {ls : ab_L} {st : List Value} {w : ab_W} {x y : Int64} : ab_Run ab_mt 28 51 ls (.long y :: .long x :: st) w = ab_Run ab_mt 28 52 ls (.long (x + y) :: st) w := E_lb (f := fun x y => x + y) rfl
theorem e_28_52 {ls : ab_L} {st : List Value} {w : ab_W} : ab_Run ab_mt 28 52 ls st w = ab_Run ab_mt 28 53 ls (.long (lN 1) :: st) w := E_push (n := 1) rfl
theorem e_28_53 {ls : ab_L} {st : List Value} {w : ab_W} {x y : Int64} : ab_Run ab_mt 28 53 ls (.long y :: .long x :: st) w = ab_Run ab_mt 28 54 ls (.long (x - y) :: st) w := E_lb (f := fun x y => x - y) rfl
theorem e_28_54 {ls : ab_L} {st : List Value} {w : ab_W} : ab_Run ab_mt 28 54 ls st w = ab_Run ab_mt 28 57 ls (.long (lN 1000) :: st) w := E_push (n := 3) rfl
theorem e_28_57 {ls : ab_L} {st : List Value} {w : ab_W} {v0 v1 : Value} (h1 : ab_recv ab_mt 43 [v0, v1] w.2 = true) (h8 : ab_w8 st = true) : ab_Run ab_mt 28 57 ls (v1 :: v0 :: st) w = ab_aft 43 28 57 ls st (ab_Cl 43 [v0, v1] w) := E_call2 rfl h1 h8
theorem e_28_60 {ls : ab_L} {st : List Value} {w : ab_W} {x : Int64} : ab_Run ab_mt 28 60 ls (.long x :: st) w = ab_Run ab_mt 28 62 (ab_l2 ls 6 (.long x)) st w := E_storl (n := 2) rfl
theorem e_28_62 {ls : ab_L} {st : List Value} {w : ab_W} (h : ab_isL (ls 6) = true) (h2 : (ls 7).isNone = true) : ab_Run ab_mt 28 62 ls st w = ab_Run ab_mt 28 64 ls (ab_gv (ls 6) :: st) w := E_loadl (n := 2) rfl h h2
theorem e_28_64 {ls : ab_L} {st : List Value} {w : ab_W} : ab_Run ab_mt 28 64 ls st w = ab_Run ab_mt 28 67 ls (.ref 1 :: st) w := E_push (n := 3) rfl
theorem e_28_67 {ls : ab_L} {st : List Value} {w : ab_W} : ab_Run ab_mt 28 67 ls st w = ab_Run ab_mt 28 68 ls (.int (nI 2) :: st) w := E_push (n := 1) rfl
theorem e_28_68 {ls : ab_L} {st : List Value} {w : ab_W} {a : Nat} {i : Int32} (h : ab_inI i (w.2 a) = true) : ab_Run ab_mt 28 68 ls (.int i :: .ref a :: st) w = ab_Run ab_mt 28 69 ls (.int (ab_aI i.toNatClampNeg (w.2 a)) :: st) w := E_iald rfl h
theorem e_28_69 {ls : ab_L} {st : List Value} {w : ab_W} {x : Int32} : ab_Run ab_mt 28 69 ls (.int x :: st) w = ab_Run ab_mt 28 70 ls (.long x.toInt64 :: st) w := E_i2l rfl
theorem e_28_70 {ls : ab_L} {st : List Value} {w : ab_W} {x y : Int64} (h8 : ab_w8 st = true) : ab_Run ab_mt 28 70 ls (.long y :: .long x :: st) w = ab_Run ab_mt 28 73 ls (.long (if y < x then x else y) :: st) w := E_maxl rfl h8
theorem e_28_73 {ls : ab_L} {st : List Value} {w : ab_W} {x : Int64} : ab_Run ab_mt 28 73 ls (.long x :: st) w = ab_Run ab_mt 28 75 (ab_l2 ls 8 (.long x)) st w := E_storl (n := 2) rfl
theorem e_28_75 {ls : ab_L} {st : List Value} {w : ab_W} (h : ab_isL (ls 8) = true) (h2 : (ls 9).isNone = true) : ab_Run ab_mt 28 75 ls st w = ab_Run ab_mt 28 77 ls (ab_gv (ls 8) :: st) w := E_loadl (n := 2) rfl h h2
theorem e_28_77 {ls : ab_L} {st : List Value} {w : ab_W} : ab_Run ab_mt 28 77 ls st w = ab_Run ab_mt 28 80 ls (.ref 2 :: st) w := E_push (n := 3) rfl
theorem e_28_80 {ls : ab_L} {st : List Value} {w : ab_W} : ab_Run ab_mt 28 80 ls st w = ab_Run ab_mt 28 81 ls (.int (nI 2) :: st) w := E_push (n := 1) rfl
theorem e_28_81 {ls : ab_L} {st : List Value} {w : ab_W} {a : Nat} {i : Int32} (h : ab_inI i (w.2 a) = true) : ab_Run ab_mt 28 81 ls (.int i :: .ref a :: st) w = ab_Run ab_mt 28 82 ls (.int (ab_aI i.toNatClampNeg (w.2 a)) :: st) w := E_iald rfl h
theorem e_28_82 {ls : ab_L} {st : List Value} {w : ab_W} {x : Int32} : ab_Run ab_mt 28 82 ls (.int x :: st) w = ab_Run ab_mt 28 83 ls (.long x.toInt64 :: st) w := E_i2l rfl
theorem e_28_83 {ls : ab_L} {st : List Value} {w : ab_W} {x y : Int64} : ab_Run ab_mt 28 83 ls (.long y :: .long x :: st) w = ab_Run ab_mt 28 84 ls (.int (lg_cmp x y) :: st) w := E_lcmp rfl
theorem e_28_84 {ls : ab_L} {st : List Value} {w : ab_W} {x : Int32} : ab_Run ab_mt 28 84 ls (.int x :: st) w = if x ≤ 0 then ab_Run ab_mt 28 91 ls st w else ab_Run ab_mt 28 87 ls st w := E_if_le rfl
theorem e_28_87 {ls : ab_L} {st : List Value} {w : ab_W} : ab_Run ab_mt 28 87 ls st w = ab_Run ab_mt 28 88 ls (.int (-1) :: st) w := E_push (n := 1) rfl
theorem e_28_88 {ls : ab_L} {st : List Value} {w : ab_W} : ab_Run ab_mt 28 88 ls st w = ab_Run ab_mt 28 94 ls st w := E_goto rfl
theorem e_28_91 {ls : ab_L} {st : List Value} {w : ab_W} (h : ab_isL (ls 8) = true) (h2 : (ls 9).isNone = true) : ab_Run ab_mt 28 91 ls st w = ab_Run ab_mt 28 93 ls (ab_gv (ls 8) :: st) w := E_loadl (n := 2) rfl h h2
theorem e_28_93 {ls : ab_L} {st : List Value} {w : ab_W} {x : Int64} : ab_Run ab_mt 28 93 ls (.long x :: st) w = ab_Run ab_mt 28 94 ls (.int x.toInt32 :: st) w := E_l2i rfl
theorem e_28_94 {ls : ab_L} {w : ab_W} {x : Int32} : ab_Run ab_mt 28 94 ls [.int x] w = some (.inl (some (.int x)), w) := E_reti rfl
theorem rv_28 {σ : ab_S} {t : Nat} {x0 : Int32} {x1 : Int64} : ab_recv ab_mt 28 [.ref t, .int x0, .long x1] σ = ab_isO 0 (σ t) := rfl
theorem x_28_11 {ls : ab_L} {rest : List Value} {E : Nat} {w : ab_W} : ab_aft 33 28 11 ls rest (some (.inr E, w)) = some (.inr E, w) := ab_aft_x rfl rfl (by unfold ab_hand; rfl)
theorem x_28_19 {ls : ab_L} {rest : List Value} {E : Nat} {w : ab_W} : ab_aft 34 28 19 ls rest (some (.inr E, w)) = some (.inr E, w) := ab_aft_x rfl rfl (by unfold ab_hand; rfl)
theorem e_29_0 {ls : ab_L} {st : List Value} {w : ab_W} (h : ab_isI (ls 1) = true) : ab_Run ab_mt 29 0 ls st w = ab_Run ab_mt 29 1 ls (ab_gv (ls 1) :: st) w := E_loadi (n := 1) rfl h
theorem e_29_1 {ls : ab_L} {st : List Value} {w : ab_W} (h : ab_isR (ls 0) = true) : ab_Run ab_mt 29 1 ls st w = ab_Run ab_mt 29 2 ls (ab_gv (ls 0) :: st) w := E_loadr (n := 1) rfl h
theorem e_29_2 {ls : ab_L} {st : List Value} {w : ab_W} {a : Nat} (h : ab_isF 0 0 (w.2 a) = true) : ab_Run ab_mt 29 2 ls (.ref a :: st) w = ab_Run ab_mt 29 5 ls (ab_fv 0 (w.2 a) :: st) w := E_get rfl h
theorem e_29_5 {ls : ab_L} {st : List Value} {w : ab_W} {a : Nat} (h : ab_isF 1 6 (w.2 a) = true) : ab_Run ab_mt 29 5 ls (.ref a :: st) w = ab_Run ab_mt 29 8 ls (ab_fv 6 (w.2 a) :: st) w := E_get rfl h
theorem e_29_8 {ls : ab_L} {st : List Value} {w : ab_W} {v0 v1 : Value} (h1 : ab_recv ab_mt 33 [v0, v1] w.2 = true) (h8 : ab_w8 st = true) : ab_Run ab_mt 29 8 ls (v1 :: v0 :: st) w = ab_aft 33 29 8 ls st (ab_Cl 33 [v0, v1] w) := E_call2 rfl h1 h8
theorem e_29_11 {ls : ab_L} {st : List Value} {w : ab_W} (h : ab_isI (ls 2) = true) : ab_Run ab_mt 29 11 ls st w = ab_Run ab_mt 29 12 ls (ab_gv (ls 2) :: st) w := E_loadi (n := 1) rfl h
theorem e_29_12 {ls : ab_L} {st : List Value} {w : ab_W} {x : Int32} : ab_Run ab_mt 29 12 ls (.int x :: st) w = ab_Run ab_mt 29 13 ls (.long x.toInt64 :: st) w := E_i2l rfl
theorem e_29_13 {ls : ab_L} {st : List Value} {w : ab_W} : ab_Run ab_mt 29 13 ls st w = ab_Run ab_mt 29 14 ls (.long (lN 0) :: st) w := E_push (n := 1) rfl
theorem e_29_14 {ls : ab_L} {st : List Value} {w : ab_W} : ab_Run ab_mt 29 14 ls st w = ab_Run ab_mt 29 17 ls (.long (lN 287) :: st) w := E_push (n := 3) rfl
theorem e_29_17 {ls : ab_L} {st : List Value} {w : ab_W} {v0 v1 v2 : Value} (h1 : ab_recv ab_mt 34 [v0, v1, v2] w.2 = true) (h8 : ab_w8 st = true) : ab_Run ab_mt 29 17 ls (v2 :: v1 :: v0 :: st) w = ab_aft 34 29 17 ls st (ab_Cl 34 [v0, v1, v2] w) := E_call3 rfl h1 h8
theorem e_29_20 {ls : ab_L} {st : List Value} {w : ab_W} (h : ab_isI (ls 3) = true) : ab_Run ab_mt 29 20 ls st w = ab_Run ab_mt 29 21 ls (ab_gv (ls 3) :: st) w := E_loadi (n := 1) rfl h
theorem e_29_21 {ls : ab_L} {st : List Value} {w : ab_W} {x : Int32} : ab_Run ab_mt 29 21 ls (.int x :: st) w = ab_Run ab_mt 29 22 ls (.long x.toInt64 :: st) w := E_i2l rfl
theorem e_29_22 {ls : ab_L} {st : List Value} {w : ab_W} : ab_Run ab_mt 29 22 ls st w = ab_Run ab_mt 29 25 ls (.long (lN 200) :: st) w := E_push (n := 3) rfl
theorem e_29_25 {ls : ab_L} {st : List Value} {w : ab_W} : ab_Run ab_mt 29 25 ls st w = ab_Run ab_mt 29 28 ls (.long (lN 4000) :: st) w := E_push (n := 3) rfl
theorem e_29_28 {ls : ab_L} {st : List Value} {w : ab_W} {v0 v1 v2 : Value} (h1 : ab_recv ab_mt 34 [v0, v1, v2] w.2 = true) (h8 : ab_w8 st = true) : ab_Run ab_mt 29 28 ls (v2 :: v1 :: v0 :: st) w = ab_aft 34 29 28 ls st (ab_Cl 34 [v0, v1, v2] w) := E_call3 rfl h1 h8
theorem e_29_31 {ls : ab_L} {st : List Value} {w : ab_W} (h : ab_isR (ls 0) = true) : ab_Run ab_mt 29 31 ls st w = ab_Run ab_mt 29 32 ls (ab_gv (ls 0) :: st) w := E_loadr (n := 1) rfl h
theorem e_29_32 {ls : ab_L} {st : List Value} {w : ab_W} {a : Nat} (h : ab_isF 0 9 (w.2 a) = true) : ab_Run ab_mt 29 32 ls (.ref a :: st) w = ab_Run ab_mt 29 35 ls (ab_fv 9 (w.2 a) :: st) w := E_get rfl h
theorem e_29_35 {ls : ab_L} {st : List Value} {w : ab_W} {a : Nat} (h : ab_isF 1 0 (w.2 a) = true) : ab_Run ab_mt 29 35 ls (.ref a :: st) w = ab_Run ab_mt 29 38 ls (ab_fv 0 (w.2 a) :: st) w := E_get rfl h
theorem e_29_38 {ls : ab_L} {st : List Value} {w : ab_W} (h : ab_isR (ls 0) = true) : ab_Run ab_mt 29 38 ls st w = ab_Run ab_mt 29 39 ls (ab_gv (ls 0) :: st) w := E_loadr (n := 1) rfl h
theorem e_29_39 {ls : ab_L} {st : List Value} {w : ab_W} {a : Nat} (h : ab_isF 0 1 (w.2 a) = true) : ab_Run ab_mt 29 39 ls (.ref a :: st) w = ab_Run ab_mt 29 42 ls (ab_fv 1 (w.2 a) :: st) w := E_get rfl h
theorem e_29_42 {ls : ab_L} {st : List Value} {w : ab_W} {v0 v1 : Value} (h1 : ab_recv ab_mt 73 [v0, v1] w.2 = true) (h8 : ab_w8 st = true) : ab_Run ab_mt 29 42 ls (v1 :: v0 :: st) w = ab_aft 73 29 42 ls st (ab_Cl 73 [v0, v1] w) := E_call2 rfl h1 h8
theorem e_29_45 {ls : ab_L} {st : List Value} {w : ab_W} (h : ab_isR (ls 0) = true) : ab_Run ab_mt 29 45 ls st w = ab_Run ab_mt 29 46 ls (ab_gv (ls 0) :: st) w := E_loadr (n := 1) rfl h
theorem e_29_46 {ls : ab_L} {st : List Value} {w : ab_W} {a : Nat} (h : ab_isF 0 9 (w.2 a) = true) : ab_Run ab_mt 29 46 ls (.ref a :: st) w = ab_Run ab_mt 29 49 ls (ab_fv 9 (w.2 a) :: st) w := E_get rfl h
theorem e_29_49 {ls : ab_L} {st : List Value} {w : ab_W} {a : Nat} (h : ab_isF 1 0 (w.2 a) = true) : ab_Run ab_mt 29 49 ls (.ref a :: st) w = ab_Run ab_mt 29 52 ls (ab_fv 0 (w.2 a) :: st) w := E_get rfl h
theorem e_29_52 {ls : ab_L} {st : List Value} {w : ab_W} {a : Nat} (h : ab_isF 2 1 (w.2 a) = true) : ab_Run ab_mt 29 52 ls (.ref a :: st) w = ab_Run ab_mt 29 55 ls (ab_fv 1 (w.2 a) :: st) w := E_get rfl h
theorem e_29_55 {ls : ab_L} {st : List Value} {w : ab_W} (h : ab_isI (ls 2) = true) : ab_Run ab_mt 29 55 ls st w = ab_Run ab_mt 29 56 ls (ab_gv (ls 2) :: st) w := E_loadi (n := 1) rfl h
theorem e_29_56 {ls : ab_L} {st : List Value} {w : ab_W} (h : ab_isI (ls 3) = true) : ab_Run ab_mt 29 56 ls st w = ab_Run ab_mt 29 57 ls (ab_gv (ls 3) :: st) w := E_loadi (n := 1) rfl h
theorem e_29_57 {ls : ab_L} {st : List Value} {w : ab_W} : ab_Run ab_mt 29 57 ls st w = ab_Run ab_mt 29 58 ls (.int (nI 1) :: st) w := E_push (n := 1) rfl
theorem e_29_58 {ls : ab_L} {st : List Value} {w : ab_W} {v0 v1 v2 v3 : Value} (h1 : ab_recv ab_mt 42 [v0, v1, v2, v3] w.2 = true) (h8 : ab_w8 st = true) : ab_Run ab_mt 29 58 ls (v3 :: v2 :: v1 :: v0 :: st) w = ab_aft 42 29 58 ls st (ab_Cl 42 [v0, v1, v2, v3] w) := E_call4 rfl h1 h8
theorem e_29_61 {ls : ab_L} {st : List Value} {w : ab_W} (h : ab_isR (ls 0) = true) : ab_Run ab_mt 29 61 ls st w = ab_Run ab_mt 29 62 ls (ab_gv (ls 0) :: st) w := E_loadr (n := 1) rfl h
theorem e_29_62 {ls : ab_L} {st : List Value} {w : ab_W} {a : Nat} (h : ab_isF 0 9 (w.2 a) = true) : ab_Run ab_mt 29 62 ls (.ref a :: st) w = ab_Run ab_mt 29 65 ls (ab_fv 9 (w.2 a) :: st) w := E_get rfl h
theorem e_29_65 {ls : ab_L} {st : List Value} {w : ab_W} {v0 : Value} (h1 : ab_recv ab_mt 48 [v0] w.2 = true) (h8 : ab_w8 st = true) : ab_Run ab_mt 29 65 ls (v0 :: st) w = ab_aft 48 29 65 ls st (ab_Cl 48 [v0] w) := E_call1 rfl h1 h8
theorem e_29_68 {ls : ab_L} {st : List Value} {w : ab_W} (h : ab_isR (ls 0) = true) : ab_Run ab_mt 29 68 ls st w = ab_Run ab_mt 29 69 ls (ab_gv (ls 0) :: st) w := E_loadr (n := 1) rfl h
theorem e_29_69 {ls : ab_L} {st : List Value} {w : ab_W} {a : Nat} (h : ab_isF 0 9 (w.2 a) = true) : ab_Run ab_mt 29 69 ls (.ref a :: st) w = ab_Run ab_mt 29 72 ls (ab_fv 9 (w.2 a) :: st) w := E_get rfl h
theorem e_29_72 {ls : ab_L} {st : List Value} {w : ab_W} (h : ab_isI (ls 1) = true) : ab_Run ab_mt 29 72 ls st w = ab_Run ab_mt 29 73 ls (ab_gv (ls 1) :: st) w := E_loadi (n := 1) rfl h
theorem e_29_73 {ls : ab_L} {st : List Value} {w : ab_W} {v0 v1 : Value} (h1 : ab_recv ab_mt 59 [v0, v1] w.2 = true) (h8 : ab_w8 st = true) : ab_Run ab_mt 29 73 ls (v1 :: v0 :: st) w = ab_aft 59 29 73 ls st (ab_Cl 59 [v0, v1] w) := E_call2 rfl h1 h8
theorem e_29_76 {ls : ab_L} {w : ab_W} {x : Int64} : ab_Run ab_mt 29 76 ls [.long x] w = some (.inl (some (.long x)), w) := E_retl rfl
theorem rv_29 {σ : ab_S} {t : Nat} {x0 : Int32} {x1 : Int32} {x2 : Int32} : ab_recv ab_mt 29 [.ref t, .int x0, .int x1, .int x2] σ = ab_isO 0 (σ t) := rfl
theorem x_29_8 {ls : ab_L} {rest : List Value} {E : Nat} {w : ab_W} : ab_aft 33 29 8 ls rest (some (.inr E, w)) = some (.inr E, w) := ab_aft_x rfl rfl (by unfold ab_hand; rfl)
theorem x_29_17 {ls : ab_L} {rest : List Value} {E : Nat} {w : ab_W} : ab_aft 34 29 17 ls rest (some (.inr E, w)) = some (.inr E, w) := ab_aft_x rfl rfl (by unfold ab_hand; rfl)
theorem x_29_28 {ls : ab_L} {rest : List Value} {E : Nat} {w : ab_W} : ab_aft 34 29 28 ls rest (some (.inr E, w)) = some (.inr E, w) := ab_aft_x rfl rfl (by unfold ab_hand; rfl)
theorem x_29_65 {ls : ab_L} {rest : List Value} {E : Nat} {w : ab_W} : ab_aft 48 29 65 ls rest (some (.inr E, w)) = some (.inr E, w) := ab_aft_x rfl rfl (by unfold ab_hand; rfl)
theorem e_30_0 {ls : ab_L} {st : List Value} {w : ab_W} (h : ab_isR (ls 0) = true) : ab_Run ab_mt 30 0 ls st w = ab_Run ab_mt 30 1 ls (ab_gv (ls 0) :: st) w := E_loadr (n := 1) rfl h
theorem e_30_1 {ls : ab_L} {st : List Value} {w : ab_W} {a : Nat} (h : ab_isF 0 0 (w.2 a) = true) : ab_Run ab_mt 30 1 ls (.ref a :: st) w = ab_Run ab_mt 30 4 ls (ab_fv 0 (w.2 a) :: st) w := E_get rfl h
theorem e_30_4 {ls : ab_L} {st : List Value} {w : ab_W} {a : Nat} (h : ab_isF 1 7 (w.2 a) = true) : ab_Run ab_mt 30 4 ls (.ref a :: st) w = ab_Run ab_mt 30 7 ls (ab_fv 7 (w.2 a) :: st) w := E_get rfl h
theorem e_30_7 {ls : ab_L} {st : List Value} {w : ab_W} : ab_Run ab_mt 30 7 ls st w = ab_Run ab_mt 30 8 ls (.long (lN 0) :: st) w := E_push (n := 1) rfl
theorem e_30_8 {ls : ab_L} {st : List Value} {w : ab_W} {x y : Int64} : ab_Run ab_mt 30 8 ls (.long y :: .long x :: st) w = ab_Run ab_mt 30 9 ls (.int (lg_cmp x y) :: st) w := E_lcmp rfl
theorem e_30_9 {ls : ab_L} {st : List Value} {w : ab_W} {x : Int32} : ab_Run ab_mt 30 9 ls (.int x :: st) w = if 0 < x then ab_Run ab_mt 30 14 ls st w else ab_Run ab_mt 30 12 ls st w := E_if_gt rfl
theorem e_30_12 {ls : ab_L} {st : List Value} {w : ab_W} : ab_Run ab_mt 30 12 ls st w = ab_Run ab_mt 30 13 ls (.double FP.dconst0 :: st) w := E_push (n := 1) rfl
theorem e_30_13 {ls : ab_L} {w : ab_W} {x : UInt64} : ab_Run ab_mt 30 13 ls [.double x] w = some (.inl (some (.double x)), w) := E_retd rfl
theorem e_30_14 {ls : ab_L} {st : List Value} {w : ab_W} : ab_Run ab_mt 30 14 ls st w = ab_Run ab_mt 30 17 ls (.double 4723321873536909312 :: st) w := E_push (n := 3) rfl
theorem e_30_17 {ls : ab_L} {st : List Value} {w : ab_W} (h : ab_isR (ls 0) = true) : ab_Run ab_mt 30 17 ls st w = ab_Run ab_mt 30 18 ls (ab_gv (ls 0) :: st) w := E_loadr (n := 1) rfl h
theorem e_30_18 {ls : ab_L} {st : List Value} {w : ab_W} {a : Nat} (h : ab_isF 0 0 (w.2 a) = true) : ab_Run ab_mt 30 18 ls (.ref a :: st) w = ab_Run ab_mt 30 21 ls (ab_fv 0 (w.2 a) :: st) w := E_get rfl h
theorem e_30_21 {ls : ab_L} {st : List Value} {w : ab_W} {a : Nat} (h : ab_isF 1 6 (w.2 a) = true) : ab_Run ab_mt 30 21 ls (.ref a :: st) w = ab_Run ab_mt 30 24 ls (ab_fv 6 (w.2 a) :: st) w := E_get rfl h
theorem e_30_24 {ls : ab_L} {st : List Value} {w : ab_W} {x : Int32} : ab_Run ab_mt 30 24 ls (.int x :: st) w = ab_Run ab_mt 30 25 ls (.double (FP.i2d x) :: st) w := E_i2d rfl
theorem e_30_25 {ls : ab_L} {st : List Value} {w : ab_W} {x y : UInt64} (h : ab_n64 (FP.dmul x y) = true) : ab_Run ab_mt 30 25 ls (.double y :: .double x :: st) w = ab_Run ab_mt 30 26 ls (.double (FP.dmul x y) :: st) w := E_db rfl h
theorem e_30_26 {ls : ab_L} {st : List Value} {w : ab_W} (h : ab_isR (ls 0) = true) : ab_Run ab_mt 30 26 ls st w = ab_Run ab_mt 30 27 ls (ab_gv (ls 0) :: st) w := E_loadr (n := 1) rfl h
theorem e_30_27 {ls : ab_L} {st : List Value} {w : ab_W} {a : Nat} (h : ab_isF 0 0 (w.2 a) = true) : ab_Run ab_mt 30 27 ls (.ref a :: st) w = ab_Run ab_mt 30 30 ls (ab_fv 0 (w.2 a) :: st) w := E_get rfl h
theorem e_30_30 {ls : ab_L} {st : List Value} {w : ab_W} {a : Nat} (h : ab_isF 1 7 (w.2 a) = true) : ab_Run ab_mt 30 30 ls (.ref a :: st) w = ab_Run ab_mt 30 33 ls (ab_fv 7 (w.2 a) :: st) w := E_get rfl h
theorem e_30_33 {ls : ab_L} {st : List Value} {w : ab_W} {x : Int64} : ab_Run ab_mt 30 33 ls (.long x :: st) w = ab_Run ab_mt 30 34 ls (.double (FP.l2d x) :: st) w := E_l2d rfl
theorem e_30_34 {ls : ab_L} {st : List Value} {w : ab_W} {x y : UInt64} (h : ab_n64 (FP.ddiv x y) = true) : ab_Run ab_mt 30 34 ls (.double y :: .double x :: st) w = ab_Run ab_mt 30 35 ls (.double (FP.ddiv x y) :: st) w := E_db rfl h
theorem e_30_35 {ls : ab_L} {w : ab_W} {x : UInt64} : ab_Run ab_mt 30 35 ls [.double x] w = some (.inl (some (.double x)), w) := E_retd rfl
theorem rv_30 {σ : ab_S} {t : Nat} : ab_recv ab_mt 30 [.ref t] σ = ab_isO 0 (σ t) := rfl
theorem e_31_0 {ls : ab_L} {st : List Value} {w : ab_W} : ab_Run ab_mt 31 0 ls st w = ab_Run ab_mt 31 3 ls (.long (lN 2083) :: st) w := E_push (n := 3) rfl
theorem e_31_3 {ls : ab_L} {st : List Value} {w : ab_W} {x : Int64} : ab_Run ab_mt 31 3 ls (.long x :: st) w = ab_Run ab_mt 31 4 (ab_l2 ls 1 (.long x)) st w := E_storl (n := 1) rfl
theorem e_31_4 {ls : ab_L} {st : List Value} {w : ab_W} : ab_Run ab_mt 31 4 ls st w = ab_Run ab_mt 31 5 ls (.int (nI 0) :: st) w := E_push (n := 1) rfl
theorem e_31_5 {ls : ab_L} {st : List Value} {w : ab_W} {x : Int32} : ab_Run ab_mt 31 5 ls (.int x :: st) w = ab_Run ab_mt 31 6 (ab_l1 ls 3 (.int x)) st w := E_stori (n := 1) rfl
theorem e_31_6 {ls : ab_L} {st : List Value} {w : ab_W} (h : ab_isI (ls 3) = true) : ab_Run ab_mt 31 6 ls st w = ab_Run ab_mt 31 7 ls (ab_gv (ls 3) :: st) w := E_loadi (n := 1) rfl h
theorem e_31_7 {ls : ab_L} {st : List Value} {w : ab_W} : ab_Run ab_mt 31 7 ls st w = ab_Run ab_mt 31 9 ls (.int (nI 11) :: st) w := E_push (n := 2) rfl
theorem e_31_9 {ls : ab_L} {st : List Value} {w : ab_W} {x y : Int32} : ab_Run ab_mt 31 9 ls (.int y :: .int x :: st) w = if y < x then ab_Run ab_mt 31 30 ls st w else ab_Run ab_mt 31 12 ls st w := E_ic_gt rfl
theorem e_31_12 {ls : ab_L} {st : List Value} {w : ab_W} : ab_Run ab_mt 31 12 ls st w = ab_Run ab_mt 31 15 ls (.long (lN 31) :: st) w := E_push (n := 3) rfl
theorem e_31_15 {ls : ab_L} {st : List Value} {w : ab_W} (h : ab_isL (ls 1) = true) (h2 : (ls 2).isNone = true) : ab_Run ab_mt 31 15 ls st w = ab_Run ab_mt 31 16 ls (ab_gv (ls 1) :: st) w := E_loadl (n := 1) rfl h h2
theorem e_31_16 {ls : ab_L} {st : List Value} {w : ab_W} {x y : Int64} : ab_Run ab_mt 31 16 ls (.long y :: .long x :: st) w = ab_Run ab_mt 31 17 ls (.long (x * y) :: st) w := E_lb (f := fun x y => x * y) rfl
theorem e_31_17 {ls : ab_L} {st : List Value} {w : ab_W} (h : ab_isR (ls 0) = true) : ab_Run ab_mt 31 17 ls st w = ab_Run ab_mt 31 18 ls (ab_gv (ls 0) :: st) w := E_loadr (n := 1) rfl h
theorem e_31_18 {ls : ab_L} {st : List Value} {w : ab_W} (h : ab_isI (ls 3) = true) : ab_Run ab_mt 31 18 ls st w = ab_Run ab_mt 31 19 ls (ab_gv (ls 3) :: st) w := E_loadi (n := 1) rfl h
theorem e_31_19 {ls : ab_L} {st : List Value} {w : ab_W} {v0 v1 : Value} (h1 : ab_recv ab_mt 26 [v0, v1] w.2 = true) (h8 : ab_w8 st = true) : ab_Run ab_mt 31 19 ls (v1 :: v0 :: st) w = ab_aft 26 31 19 ls st (ab_Cl 26 [v0, v1] w) := E_call2 rfl h1 h8
theorem e_31_22 {ls : ab_L} {st : List Value} {w : ab_W} {x y : Int64} : ab_Run ab_mt 31 22 ls (.long y :: .long x :: st) w = ab_Run ab_mt 31 23 ls (.long (x + y) :: st) w := E_lb (f := fun x y => x + y) rfl
theorem e_31_23 {ls : ab_L} {st : List Value} {w : ab_W} {x : Int64} : ab_Run ab_mt 31 23 ls (.long x :: st) w = ab_Run ab_mt 31 24 (ab_l2 ls 1 (.long x)) st w := E_storl (n := 1) rfl
theorem e_31_24 {ls : ab_L} {st : List Value} {w : ab_W} (h : ab_isI (ls 3) = true) : ab_Run ab_mt 31 24 ls st w = ab_Run ab_mt 31 27 (ab_l1 ls 3 (.int (ab_gi (ls 3) + (nI 1)))) st w := E_iinc rfl h
theorem e_31_27 {ls : ab_L} {st : List Value} {w : ab_W} : ab_Run ab_mt 31 27 ls st w = ab_Run ab_mt 31 6 ls st w := E_goto rfl
theorem e_31_30 {ls : ab_L} {st : List Value} {w : ab_W} : ab_Run ab_mt 31 30 ls st w = ab_Run ab_mt 31 31 ls (.int (nI 0) :: st) w := E_push (n := 1) rfl
theorem e_31_31 {ls : ab_L} {st : List Value} {w : ab_W} {x : Int32} : ab_Run ab_mt 31 31 ls (.int x :: st) w = ab_Run ab_mt 31 32 (ab_l1 ls 3 (.int x)) st w := E_stori (n := 1) rfl
theorem e_31_32 {ls : ab_L} {st : List Value} {w : ab_W} (h : ab_isI (ls 3) = true) : ab_Run ab_mt 31 32 ls st w = ab_Run ab_mt 31 33 ls (ab_gv (ls 3) :: st) w := E_loadi (n := 1) rfl h
theorem e_31_33 {ls : ab_L} {st : List Value} {w : ab_W} : ab_Run ab_mt 31 33 ls st w = ab_Run ab_mt 31 35 ls (.int (nI 6) :: st) w := E_push (n := 2) rfl
theorem e_31_35 {ls : ab_L} {st : List Value} {w : ab_W} {x y : Int32} : ab_Run ab_mt 31 35 ls (.int y :: .int x :: st) w = if y < x then ab_Run ab_mt 31 56 ls st w else ab_Run ab_mt 31 38 ls st w := E_ic_gt rfl
theorem e_31_38 {ls : ab_L} {st : List Value} {w : ab_W} : ab_Run ab_mt 31 38 ls st w = ab_Run ab_mt 31 41 ls (.long (lN 31) :: st) w := E_push (n := 3) rfl
theorem e_31_41 {ls : ab_L} {st : List Value} {w : ab_W} (h : ab_isL (ls 1) = true) (h2 : (ls 2).isNone = true) : ab_Run ab_mt 31 41 ls st w = ab_Run ab_mt 31 42 ls (ab_gv (ls 1) :: st) w := E_loadl (n := 1) rfl h h2
theorem e_31_42 {ls : ab_L} {st : List Value} {w : ab_W} {x y : Int64} : ab_Run ab_mt 31 42 ls (.long y :: .long x :: st) w = ab_Run ab_mt 31 43 ls (.long (x * y) :: st) w := E_lb (f := fun x y => x * y) rfl
theorem e_31_43 {ls : ab_L} {st : List Value} {w : ab_W} (h : ab_isR (ls 0) = true) : ab_Run ab_mt 31 43 ls st w = ab_Run ab_mt 31 44 ls (ab_gv (ls 0) :: st) w := E_loadr (n := 1) rfl h
theorem e_31_44 {ls : ab_L} {st : List Value} {w : ab_W} (h : ab_isI (ls 3) = true) : ab_Run ab_mt 31 44 ls st w = ab_Run ab_mt 31 45 ls (ab_gv (ls 3) :: st) w := E_loadi (n := 1) rfl h
theorem e_31_45 {ls : ab_L} {st : List Value} {w : ab_W} {v0 v1 : Value} (h1 : ab_recv ab_mt 19 [v0, v1] w.2 = true) (h8 : ab_w8 st = true) : ab_Run ab_mt 31 45 ls (v1 :: v0 :: st) w = ab_aft 19 31 45 ls st (ab_Cl 19 [v0, v1] w) := E_call2 rfl h1 h8
theorem e_31_48 {ls : ab_L} {st : List Value} {w : ab_W} {x y : Int64} : ab_Run ab_mt 31 48 ls (.long y :: .long x :: st) w = ab_Run ab_mt 31 49 ls (.long (x + y) :: st) w := E_lb (f := fun x y => x + y) rfl
theorem e_31_49 {ls : ab_L} {st : List Value} {w : ab_W} {x : Int64} : ab_Run ab_mt 31 49 ls (.long x :: st) w = ab_Run ab_mt 31 50 (ab_l2 ls 1 (.long x)) st w := E_storl (n := 1) rfl
theorem e_31_50 {ls : ab_L} {st : List Value} {w : ab_W} (h : ab_isI (ls 3) = true) : ab_Run ab_mt 31 50 ls st w = ab_Run ab_mt 31 53 (ab_l1 ls 3 (.int (ab_gi (ls 3) + (nI 1)))) st w := E_iinc rfl h
theorem e_31_53 {ls : ab_L} {st : List Value} {w : ab_W} : ab_Run ab_mt 31 53 ls st w = ab_Run ab_mt 31 32 ls st w := E_goto rfl
theorem e_31_56 {ls : ab_L} {st : List Value} {w : ab_W} (h : ab_isR (ls 0) = true) : ab_Run ab_mt 31 56 ls st w = ab_Run ab_mt 31 57 ls (ab_gv (ls 0) :: st) w := E_loadr (n := 1) rfl h
theorem e_31_57 {ls : ab_L} {st : List Value} {w : ab_W} (h : ab_isL (ls 1) = true) (h2 : (ls 2).isNone = true) : ab_Run ab_mt 31 57 ls st w = ab_Run ab_mt 31 58 ls (ab_gv (ls 1) :: st) w := E_loadl (n := 1) rfl h h2
theorem e_31_58 {ls : ab_L} {st : List Value} {w : ab_W} {v0 v1 : Value} (h1 : ab_recv ab_mt 32 [v0, v1] w.2 = true) (h8 : ab_w8 st = true) : ab_Run ab_mt 31 58 ls (v1 :: v0 :: st) w = ab_aft 32 31 58 ls st (ab_Cl 32 [v0, v1] w) := E_call2 rfl h1 h8
theorem e_31_61 {ls : ab_L} {st : List Value} {w : ab_W} {x : Int64} : ab_Run ab_mt 31 61 ls (.long x :: st) w = ab_Run ab_mt 31 62 (ab_l2 ls 1 (.long x)) st w := E_storl (n := 1) rfl
theorem e_31_62 {ls : ab_L} {st : List Value} {w : ab_W} : ab_Run ab_mt 31 62 ls st w = ab_Run ab_mt 31 65 ls (.long (lN 31) :: st) w := E_push (n := 3) rfl
theorem e_31_65 {ls : ab_L} {st : List Value} {w : ab_W} (h : ab_isL (ls 1) = true) (h2 : (ls 2).isNone = true) : ab_Run ab_mt 31 65 ls st w = ab_Run ab_mt 31 66 ls (ab_gv (ls 1) :: st) w := E_loadl (n := 1) rfl h h2
theorem e_31_66 {ls : ab_L} {st : List Value} {w : ab_W} {x y : Int64} : ab_Run ab_mt 31 66 ls (.long y :: .long x :: st) w = ab_Run ab_mt 31 67 ls (.long (x * y) :: st) w := E_lb (f := fun x y => x * y) rfl
theorem e_31_67 {ls : ab_L} {st : List Value} {w : ab_W} (h : ab_isR (ls 0) = true) : ab_Run ab_mt 31 67 ls st w = ab_Run ab_mt 31 68 ls (ab_gv (ls 0) :: st) w := E_loadr (n := 1) rfl h
theorem e_31_68 {ls : ab_L} {st : List Value} {w : ab_W} {v0 : Value} (h1 : ab_recv ab_mt 30 [v0] w.2 = true) (h8 : ab_w8 st = true) : ab_Run ab_mt 31 68 ls (v0 :: st) w = ab_aft 30 31 68 ls st (ab_Cl 30 [v0] w) := E_call1 rfl h1 h8
theorem e_31_71 {ls : ab_L} {st : List Value} {w : ab_W} {v0 : Value} (h1 : ab_recv ab_mt 46 [v0] w.2 = true) (h8 : ab_w8 st = true) : ab_Run ab_mt 31 71 ls (v0 :: st) w = ab_aft 46 31 71 ls st (ab_Cl 46 [v0] w) := E_call1 rfl h1 h8
theorem e_31_74 {ls : ab_L} {st : List Value} {w : ab_W} {x y : Int64} : ab_Run ab_mt 31 74 ls (.long y :: .long x :: st) w = ab_Run ab_mt 31 75 ls (.long (x + y) :: st) w := E_lb (f := fun x y => x + y) rfl
theorem e_31_75 {ls : ab_L} {st : List Value} {w : ab_W} {x : Int64} : ab_Run ab_mt 31 75 ls (.long x :: st) w = ab_Run ab_mt 31 76 (ab_l2 ls 1 (.long x)) st w := E_storl (n := 1) rfl
theorem e_31_76 {ls : ab_L} {st : List Value} {w : ab_W} : ab_Run ab_mt 31 76 ls st w = ab_Run ab_mt 31 79 ls (.long (lN 31) :: st) w := E_push (n := 3) rfl
theorem e_31_79 {ls : ab_L} {st : List Value} {w : ab_W} (h : ab_isL (ls 1) = true) (h2 : (ls 2).isNone = true) : ab_Run ab_mt 31 79 ls st w = ab_Run ab_mt 31 80 ls (ab_gv (ls 1) :: st) w := E_loadl (n := 1) rfl h h2
theorem e_31_80 {ls : ab_L} {st : List Value} {w : ab_W} {x y : Int64} : ab_Run ab_mt 31 80 ls (.long y :: .long x :: st) w = ab_Run ab_mt 31 81 ls (.long (x * y) :: st) w := E_lb (f := fun x y => x * y) rfl
theorem e_31_81 {ls : ab_L} {st : List Value} {w : ab_W} (h : ab_isR (ls 0) = true) : ab_Run ab_mt 31 81 ls st w = ab_Run ab_mt 31 82 ls (ab_gv (ls 0) :: st) w := E_loadr (n := 1) rfl h
theorem e_31_82 {ls : ab_L} {st : List Value} {w : ab_W} {a : Nat} (h : ab_isF 0 7 (w.2 a) = true) : ab_Run ab_mt 31 82 ls (.ref a :: st) w = ab_Run ab_mt 31 85 ls (ab_fv 7 (w.2 a) :: st) w := E_get rfl h
theorem e_31_85 {ls : ab_L} {st : List Value} {w : ab_W} {x : Int32} : ab_Run ab_mt 31 85 ls (.int x :: st) w = ab_Run ab_mt 31 86 ls (.long x.toInt64 :: st) w := E_i2l rfl
theorem e_31_86 {ls : ab_L} {st : List Value} {w : ab_W} {x y : Int64} : ab_Run ab_mt 31 86 ls (.long y :: .long x :: st) w = ab_Run ab_mt 31 87 ls (.long (x + y) :: st) w := E_lb (f := fun x y => x + y) rfl
theorem e_31_87 {ls : ab_L} {st : List Value} {w : ab_W} {x : Int64} : ab_Run ab_mt 31 87 ls (.long x :: st) w = ab_Run ab_mt 31 88 (ab_l2 ls 1 (.long x)) st w := E_storl (n := 1) rfl
theorem e_31_88 {ls : ab_L} {st : List Value} {w : ab_W} : ab_Run ab_mt 31 88 ls st w = ab_Run ab_mt 31 89 ls (.int (nI 0) :: st) w := E_push (n := 1) rfl
theorem e_31_89 {ls : ab_L} {st : List Value} {w : ab_W} {x : Int32} : ab_Run ab_mt 31 89 ls (.int x :: st) w = ab_Run ab_mt 31 90 (ab_l1 ls 3 (.int x)) st w := E_stori (n := 1) rfl
theorem e_31_90 {ls : ab_L} {st : List Value} {w : ab_W} (h : ab_isI (ls 3) = true) : ab_Run ab_mt 31 90 ls st w = ab_Run ab_mt 31 91 ls (ab_gv (ls 3) :: st) w := E_loadi (n := 1) rfl h
theorem e_31_91 {ls : ab_L} {st : List Value} {w : ab_W} (h : ab_isR (ls 0) = true) : ab_Run ab_mt 31 91 ls st w = ab_Run ab_mt 31 92 ls (ab_gv (ls 0) :: st) w := E_loadr (n := 1) rfl h
theorem e_31_92 {ls : ab_L} {st : List Value} {w : ab_W} {a : Nat} (h : ab_isF 0 7 (w.2 a) = true) : ab_Run ab_mt 31 92 ls (.ref a :: st) w = ab_Run ab_mt 31 95 ls (ab_fv 7 (w.2 a) :: st) w := E_get rfl h
theorem e_31_95 {ls : ab_L} {st : List Value} {w : ab_W} {x y : Int32} : ab_Run ab_mt 31 95 ls (.int y :: .int x :: st) w = if y ≤ x then ab_Run ab_mt 31 118 ls st w else ab_Run ab_mt 31 98 ls st w := E_ic_ge rfl
theorem e_31_98 {ls : ab_L} {st : List Value} {w : ab_W} : ab_Run ab_mt 31 98 ls st w = ab_Run ab_mt 31 101 ls (.long (lN 31) :: st) w := E_push (n := 3) rfl
theorem e_31_101 {ls : ab_L} {st : List Value} {w : ab_W} (h : ab_isL (ls 1) = true) (h2 : (ls 2).isNone = true) : ab_Run ab_mt 31 101 ls st w = ab_Run ab_mt 31 102 ls (ab_gv (ls 1) :: st) w := E_loadl (n := 1) rfl h h2
theorem e_31_102 {ls : ab_L} {st : List Value} {w : ab_W} {x y : Int64} : ab_Run ab_mt 31 102 ls (.long y :: .long x :: st) w = ab_Run ab_mt 31 103 ls (.long (x * y) :: st) w := E_lb (f := fun x y => x * y) rfl
theorem e_31_103 {ls : ab_L} {st : List Value} {w : ab_W} (h : ab_isR (ls 0) = true) : ab_Run ab_mt 31 103 ls st w = ab_Run ab_mt 31 104 ls (ab_gv (ls 0) :: st) w := E_loadr (n := 1) rfl h
theorem e_31_104 {ls : ab_L} {st : List Value} {w : ab_W} {a : Nat} (h : ab_isF 0 6 (w.2 a) = true) : ab_Run ab_mt 31 104 ls (.ref a :: st) w = ab_Run ab_mt 31 107 ls (ab_fv 6 (w.2 a) :: st) w := E_get rfl h
theorem e_31_107 {ls : ab_L} {st : List Value} {w : ab_W} (h : ab_isI (ls 3) = true) : ab_Run ab_mt 31 107 ls st w = ab_Run ab_mt 31 108 ls (ab_gv (ls 3) :: st) w := E_loadi (n := 1) rfl h
theorem e_31_108 {ls : ab_L} {st : List Value} {w : ab_W} {a : Nat} {i : Int32} (h : ab_inI i (w.2 a) = true) : ab_Run ab_mt 31 108 ls (.int i :: .ref a :: st) w = ab_Run ab_mt 31 109 ls (.int (ab_aI i.toNatClampNeg (w.2 a)) :: st) w := E_iald rfl h
theorem e_31_109 {ls : ab_L} {st : List Value} {w : ab_W} {x : Int32} : ab_Run ab_mt 31 109 ls (.int x :: st) w = ab_Run ab_mt 31 110 ls (.long x.toInt64 :: st) w := E_i2l rfl
theorem e_31_110 {ls : ab_L} {st : List Value} {w : ab_W} {x y : Int64} : ab_Run ab_mt 31 110 ls (.long y :: .long x :: st) w = ab_Run ab_mt 31 111 ls (.long (x + y) :: st) w := E_lb (f := fun x y => x + y) rfl
theorem e_31_111 {ls : ab_L} {st : List Value} {w : ab_W} {x : Int64} : ab_Run ab_mt 31 111 ls (.long x :: st) w = ab_Run ab_mt 31 112 (ab_l2 ls 1 (.long x)) st w := E_storl (n := 1) rfl
theorem e_31_112 {ls : ab_L} {st : List Value} {w : ab_W} (h : ab_isI (ls 3) = true) : ab_Run ab_mt 31 112 ls st w = ab_Run ab_mt 31 115 (ab_l1 ls 3 (.int (ab_gi (ls 3) + (nI 1)))) st w := E_iinc rfl h
theorem e_31_115 {ls : ab_L} {st : List Value} {w : ab_W} : ab_Run ab_mt 31 115 ls st w = ab_Run ab_mt 31 90 ls st w := E_goto rfl
theorem e_31_118 {ls : ab_L} {st : List Value} {w : ab_W} (h : ab_isL (ls 1) = true) (h2 : (ls 2).isNone = true) : ab_Run ab_mt 31 118 ls st w = ab_Run ab_mt 31 119 ls (ab_gv (ls 1) :: st) w := E_loadl (n := 1) rfl h h2
theorem e_31_119 {ls : ab_L} {w : ab_W} {x : Int64} : ab_Run ab_mt 31 119 ls [.long x] w = some (.inl (some (.long x)), w) := E_retl rfl
theorem rv_31 {σ : ab_S} {t : Nat} : ab_recv ab_mt 31 [.ref t] σ = ab_isO 0 (σ t) := rfl
theorem x_31_19 {ls : ab_L} {rest : List Value} {E : Nat} {w : ab_W} : ab_aft 26 31 19 ls rest (some (.inr E, w)) = some (.inr E, w) := ab_aft_x rfl rfl (by unfold ab_hand; rfl)
theorem x_31_45 {ls : ab_L} {rest : List Value} {E : Nat} {w : ab_W} : ab_aft 19 31 45 ls rest (some (.inr E, w)) = some (.inr E, w) := ab_aft_x rfl rfl (by unfold ab_hand; rfl)
theorem x_31_58 {ls : ab_L} {rest : List Value} {E : Nat} {w : ab_W} : ab_aft 32 31 58 ls rest (some (.inr E, w)) = some (.inr E, w) := ab_aft_x rfl rfl (by unfold ab_hand; rfl)
theorem e_32_0 {ls : ab_L} {st : List Value} {w : ab_W} : ab_Run ab_mt 32 0 ls st w = ab_Run ab_mt 32 1 ls (.int (nI 0) :: st) w := E_push (n := 1) rfl
theorem e_32_1 {ls : ab_L} {st : List Value} {w : ab_W} {x : Int32} : ab_Run ab_mt 32 1 ls (.int x :: st) w = ab_Run ab_mt 32 2 (ab_l1 ls 3 (.int x)) st w := E_stori (n := 1) rfl
theorem e_32_2 {ls : ab_L} {st : List Value} {w : ab_W} (h : ab_isI (ls 3) = true) : ab_Run ab_mt 32 2 ls st w = ab_Run ab_mt 32 3 ls (ab_gv (ls 3) :: st) w := E_loadi (n := 1) rfl h
theorem e_32_3 {ls : ab_L} {st : List Value} {w : ab_W} (h : ab_isR (ls 0) = true) : ab_Run ab_mt 32 3 ls st w = ab_Run ab_mt 32 4 ls (ab_gv (ls 0) :: st) w := E_loadr (n := 1) rfl h
theorem e_32_4 {ls : ab_L} {st : List Value} {w : ab_W} {a : Nat} (h : ab_isF 0 1 (w.2 a) = true) : ab_Run ab_mt 32 4 ls (.ref a :: st) w = ab_Run ab_mt 32 7 ls (ab_fv 1 (w.2 a) :: st) w := E_get rfl h
theorem e_32_7 {ls : ab_L} {st : List Value} {w : ab_W} {a : Nat} (h : ab_isF 2 0 (w.2 a) = true) : ab_Run ab_mt 32 7 ls (.ref a :: st) w = ab_Run ab_mt 32 10 ls (ab_fv 0 (w.2 a) :: st) w := E_get rfl h
theorem e_32_10 {ls : ab_L} {st : List Value} {w : ab_W} {a : Nat} (h : ab_isF 3 3 (w.2 a) = true) : ab_Run ab_mt 32 10 ls (.ref a :: st) w = ab_Run ab_mt 32 13 ls (ab_fv 3 (w.2 a) :: st) w := E_get rfl h
theorem e_32_13 {ls : ab_L} {st : List Value} {w : ab_W} {x y : Int32} : ab_Run ab_mt 32 13 ls (.int y :: .int x :: st) w = if y ≤ x then ab_Run ab_mt 32 52 ls st w else ab_Run ab_mt 32 16 ls st w := E_ic_ge rfl
theorem e_32_16 {ls : ab_L} {st : List Value} {w : ab_W} : ab_Run ab_mt 32 16 ls st w = ab_Run ab_mt 32 17 ls (.int (nI 0) :: st) w := E_push (n := 1) rfl
theorem e_32_17 {ls : ab_L} {st : List Value} {w : ab_W} {x : Int32} : ab_Run ab_mt 32 17 ls (.int x :: st) w = ab_Run ab_mt 32 19 (ab_l1 ls 4 (.int x)) st w := E_stori (n := 2) rfl
theorem e_32_19 {ls : ab_L} {st : List Value} {w : ab_W} (h : ab_isI (ls 4) = true) : ab_Run ab_mt 32 19 ls st w = ab_Run ab_mt 32 21 ls (ab_gv (ls 4) :: st) w := E_loadi (n := 2) rfl h
theorem e_32_21 {ls : ab_L} {st : List Value} {w : ab_W} : ab_Run ab_mt 32 21 ls st w = ab_Run ab_mt 32 22 ls (.int (nI 5) :: st) w := E_push (n := 1) rfl
theorem e_32_22 {ls : ab_L} {st : List Value} {w : ab_W} {x y : Int32} : ab_Run ab_mt 32 22 ls (.int y :: .int x :: st) w = if y < x then ab_Run ab_mt 32 46 ls st w else ab_Run ab_mt 32 25 ls st w := E_ic_gt rfl
theorem e_32_25 {ls : ab_L} {st : List Value} {w : ab_W} : ab_Run ab_mt 32 25 ls st w = ab_Run ab_mt 32 28 ls (.long (lN 31) :: st) w := E_push (n := 3) rfl
theorem e_32_28 {ls : ab_L} {st : List Value} {w : ab_W} (h : ab_isL (ls 1) = true) (h2 : (ls 2).isNone = true) : ab_Run ab_mt 32 28 ls st w = ab_Run ab_mt 32 29 ls (ab_gv (ls 1) :: st) w := E_loadl (n := 1) rfl h h2
theorem e_32_29 {ls : ab_L} {st : List Value} {w : ab_W} {x y : Int64} : ab_Run ab_mt 32 29 ls (.long y :: .long x :: st) w = ab_Run ab_mt 32 30 ls (.long (x * y) :: st) w := E_lb (f := fun x y => x * y) rfl
theorem e_32_30 {ls : ab_L} {st : List Value} {w : ab_W} (h : ab_isR (ls 0) = true) : ab_Run ab_mt 32 30 ls st w = ab_Run ab_mt 32 31 ls (ab_gv (ls 0) :: st) w := E_loadr (n := 1) rfl h
theorem e_32_31 {ls : ab_L} {st : List Value} {w : ab_W} (h : ab_isI (ls 3) = true) : ab_Run ab_mt 32 31 ls st w = ab_Run ab_mt 32 32 ls (ab_gv (ls 3) :: st) w := E_loadi (n := 1) rfl h
theorem e_32_32 {ls : ab_L} {st : List Value} {w : ab_W} (h : ab_isI (ls 4) = true) : ab_Run ab_mt 32 32 ls st w = ab_Run ab_mt 32 34 ls (ab_gv (ls 4) :: st) w := E_loadi (n := 2) rfl h
theorem e_32_34 {ls : ab_L} {st : List Value} {w : ab_W} {v0 v1 v2 : Value} (h1 : ab_recv ab_mt 20 [v0, v1, v2] w.2 = true) (h8 : ab_w8 st = true) : ab_Run ab_mt 32 34 ls (v2 :: v1 :: v0 :: st) w = ab_aft 20 32 34 ls st (ab_Cl 20 [v0, v1, v2] w) := E_call3 rfl h1 h8
theorem e_32_37 {ls : ab_L} {st : List Value} {w : ab_W} {x : Int32} : ab_Run ab_mt 32 37 ls (.int x :: st) w = ab_Run ab_mt 32 38 ls (.long x.toInt64 :: st) w := E_i2l rfl
theorem e_32_38 {ls : ab_L} {st : List Value} {w : ab_W} {x y : Int64} : ab_Run ab_mt 32 38 ls (.long y :: .long x :: st) w = ab_Run ab_mt 32 39 ls (.long (x + y) :: st) w := E_lb (f := fun x y => x + y) rfl
theorem e_32_39 {ls : ab_L} {st : List Value} {w : ab_W} {x : Int64} : ab_Run ab_mt 32 39 ls (.long x :: st) w = ab_Run ab_mt 32 40 (ab_l2 ls 1 (.long x)) st w := E_storl (n := 1) rfl
theorem e_32_40 {ls : ab_L} {st : List Value} {w : ab_W} (h : ab_isI (ls 4) = true) : ab_Run ab_mt 32 40 ls st w = ab_Run ab_mt 32 43 (ab_l1 ls 4 (.int (ab_gi (ls 4) + (nI 1)))) st w := E_iinc rfl h
theorem e_32_43 {ls : ab_L} {st : List Value} {w : ab_W} : ab_Run ab_mt 32 43 ls st w = ab_Run ab_mt 32 19 ls st w := E_goto rfl
theorem e_32_46 {ls : ab_L} {st : List Value} {w : ab_W} (h : ab_isI (ls 3) = true) : ab_Run ab_mt 32 46 ls st w = ab_Run ab_mt 32 49 (ab_l1 ls 3 (.int (ab_gi (ls 3) + (nI 1)))) st w := E_iinc rfl h
theorem e_32_49 {ls : ab_L} {st : List Value} {w : ab_W} : ab_Run ab_mt 32 49 ls st w = ab_Run ab_mt 32 2 ls st w := E_goto rfl
theorem e_32_52 {ls : ab_L} {st : List Value} {w : ab_W} : ab_Run ab_mt 32 52 ls st w = ab_Run ab_mt 32 53 ls (.int (nI 0) :: st) w := E_push (n := 1) rfl
theorem e_32_53 {ls : ab_L} {st : List Value} {w : ab_W} {x : Int32} : ab_Run ab_mt 32 53 ls (.int x :: st) w = ab_Run ab_mt 32 54 (ab_l1 ls 3 (.int x)) st w := E_stori (n := 1) rfl
theorem e_32_54 {ls : ab_L} {st : List Value} {w : ab_W} (h : ab_isI (ls 3) = true) : ab_Run ab_mt 32 54 ls st w = ab_Run ab_mt 32 55 ls (ab_gv (ls 3) :: st) w := E_loadi (n := 1) rfl h
theorem e_32_55 {ls : ab_L} {st : List Value} {w : ab_W} (h : ab_isR (ls 0) = true) : ab_Run ab_mt 32 55 ls st w = ab_Run ab_mt 32 56 ls (ab_gv (ls 0) :: st) w := E_loadr (n := 1) rfl h
theorem e_32_56 {ls : ab_L} {st : List Value} {w : ab_W} {a : Nat} (h : ab_isF 0 0 (w.2 a) = true) : ab_Run ab_mt 32 56 ls (.ref a :: st) w = ab_Run ab_mt 32 59 ls (ab_fv 0 (w.2 a) :: st) w := E_get rfl h
theorem e_32_59 {ls : ab_L} {st : List Value} {w : ab_W} {a : Nat} (h : ab_isF 1 6 (w.2 a) = true) : ab_Run ab_mt 32 59 ls (.ref a :: st) w = ab_Run ab_mt 32 62 ls (ab_fv 6 (w.2 a) :: st) w := E_get rfl h
theorem e_32_62 {ls : ab_L} {st : List Value} {w : ab_W} {x y : Int32} : ab_Run ab_mt 32 62 ls (.int y :: .int x :: st) w = if y ≤ x then ab_Run ab_mt 32 101 ls st w else ab_Run ab_mt 32 65 ls st w := E_ic_ge rfl
theorem e_32_65 {ls : ab_L} {st : List Value} {w : ab_W} : ab_Run ab_mt 32 65 ls st w = ab_Run ab_mt 32 66 ls (.int (nI 2) :: st) w := E_push (n := 1) rfl
theorem e_32_66 {ls : ab_L} {st : List Value} {w : ab_W} {x : Int32} : ab_Run ab_mt 32 66 ls (.int x :: st) w = ab_Run ab_mt 32 68 (ab_l1 ls 4 (.int x)) st w := E_stori (n := 2) rfl
theorem e_32_68 {ls : ab_L} {st : List Value} {w : ab_W} (h : ab_isI (ls 4) = true) : ab_Run ab_mt 32 68 ls st w = ab_Run ab_mt 32 70 ls (ab_gv (ls 4) :: st) w := E_loadi (n := 2) rfl h
theorem e_32_70 {ls : ab_L} {st : List Value} {w : ab_W} : ab_Run ab_mt 32 70 ls st w = ab_Run ab_mt 32 72 ls (.int (nI 6) :: st) w := E_push (n := 2) rfl
theorem e_32_72 {ls : ab_L} {st : List Value} {w : ab_W} {x y : Int32} : ab_Run ab_mt 32 72 ls (.int y :: .int x :: st) w = if y < x then ab_Run ab_mt 32 95 ls st w else ab_Run ab_mt 32 75 ls st w := E_ic_gt rfl
theorem e_32_75 {ls : ab_L} {st : List Value} {w : ab_W} : ab_Run ab_mt 32 75 ls st w = ab_Run ab_mt 32 78 ls (.long (lN 31) :: st) w := E_push (n := 3) rfl
theorem e_32_78 {ls : ab_L} {st : List Value} {w : ab_W} (h : ab_isL (ls 1) = true) (h2 : (ls 2).isNone = true) : ab_Run ab_mt 32 78 ls st w = ab_Run ab_mt 32 79 ls (ab_gv (ls 1) :: st) w := E_loadl (n := 1) rfl h h2
theorem e_32_79 {ls : ab_L} {st : List Value} {w : ab_W} {x y : Int64} : ab_Run ab_mt 32 79 ls (.long y :: .long x :: st) w = ab_Run ab_mt 32 80 ls (.long (x * y) :: st) w := E_lb (f := fun x y => x * y) rfl
theorem e_32_80 {ls : ab_L} {st : List Value} {w : ab_W} (h : ab_isR (ls 0) = true) : ab_Run ab_mt 32 80 ls st w = ab_Run ab_mt 32 81 ls (ab_gv (ls 0) :: st) w := E_loadr (n := 1) rfl h
theorem e_32_81 {ls : ab_L} {st : List Value} {w : ab_W} (h : ab_isI (ls 3) = true) : ab_Run ab_mt 32 81 ls st w = ab_Run ab_mt 32 82 ls (ab_gv (ls 3) :: st) w := E_loadi (n := 1) rfl h
theorem e_32_82 {ls : ab_L} {st : List Value} {w : ab_W} (h : ab_isI (ls 4) = true) : ab_Run ab_mt 32 82 ls st w = ab_Run ab_mt 32 84 ls (ab_gv (ls 4) :: st) w := E_loadi (n := 2) rfl h
theorem e_32_84 {ls : ab_L} {st : List Value} {w : ab_W} {v0 v1 v2 : Value} (h1 : ab_recv ab_mt 21 [v0, v1, v2] w.2 = true) (h8 : ab_w8 st = true) : ab_Run ab_mt 32 84 ls (v2 :: v1 :: v0 :: st) w = ab_aft 21 32 84 ls st (ab_Cl 21 [v0, v1, v2] w) := E_call3 rfl h1 h8
theorem e_32_87 {ls : ab_L} {st : List Value} {w : ab_W} {x y : Int64} : ab_Run ab_mt 32 87 ls (.long y :: .long x :: st) w = ab_Run ab_mt 32 88 ls (.long (x + y) :: st) w := E_lb (f := fun x y => x + y) rfl
theorem e_32_88 {ls : ab_L} {st : List Value} {w : ab_W} {x : Int64} : ab_Run ab_mt 32 88 ls (.long x :: st) w = ab_Run ab_mt 32 89 (ab_l2 ls 1 (.long x)) st w := E_storl (n := 1) rfl
theorem e_32_89 {ls : ab_L} {st : List Value} {w : ab_W} (h : ab_isI (ls 4) = true) : ab_Run ab_mt 32 89 ls st w = ab_Run ab_mt 32 92 (ab_l1 ls 4 (.int (ab_gi (ls 4) + (nI 1)))) st w := E_iinc rfl h
theorem e_32_92 {ls : ab_L} {st : List Value} {w : ab_W} : ab_Run ab_mt 32 92 ls st w = ab_Run ab_mt 32 68 ls st w := E_goto rfl
theorem e_32_95 {ls : ab_L} {st : List Value} {w : ab_W} (h : ab_isI (ls 3) = true) : ab_Run ab_mt 32 95 ls st w = ab_Run ab_mt 32 98 (ab_l1 ls 3 (.int (ab_gi (ls 3) + (nI 1)))) st w := E_iinc rfl h
theorem e_32_98 {ls : ab_L} {st : List Value} {w : ab_W} : ab_Run ab_mt 32 98 ls st w = ab_Run ab_mt 32 54 ls st w := E_goto rfl
theorem e_32_101 {ls : ab_L} {st : List Value} {w : ab_W} : ab_Run ab_mt 32 101 ls st w = ab_Run ab_mt 32 102 ls (.int (nI 0) :: st) w := E_push (n := 1) rfl
theorem e_32_102 {ls : ab_L} {st : List Value} {w : ab_W} {x : Int32} : ab_Run ab_mt 32 102 ls (.int x :: st) w = ab_Run ab_mt 32 103 (ab_l1 ls 3 (.int x)) st w := E_stori (n := 1) rfl
theorem e_32_103 {ls : ab_L} {st : List Value} {w : ab_W} (h : ab_isI (ls 3) = true) : ab_Run ab_mt 32 103 ls st w = ab_Run ab_mt 32 104 ls (ab_gv (ls 3) :: st) w := E_loadi (n := 1) rfl h
theorem e_32_104 {ls : ab_L} {st : List Value} {w : ab_W} (h : ab_isR (ls 0) = true) : ab_Run ab_mt 32 104 ls st w = ab_Run ab_mt 32 105 ls (ab_gv (ls 0) :: st) w := E_loadr (n := 1) rfl h
theorem e_32_105 {ls : ab_L} {st : List Value} {w : ab_W} {a : Nat} (h : ab_isF 0 1 (w.2 a) = true) : ab_Run ab_mt 32 105 ls (.ref a :: st) w = ab_Run ab_mt 32 108 ls (ab_fv 1 (w.2 a) :: st) w := E_get rfl h
theorem e_32_108 {ls : ab_L} {st : List Value} {w : ab_W} {a : Nat} (h : ab_isF 2 1 (w.2 a) = true) : ab_Run ab_mt 32 108 ls (.ref a :: st) w = ab_Run ab_mt 32 111 ls (ab_fv 1 (w.2 a) :: st) w := E_get rfl h
theorem e_32_111 {ls : ab_L} {st : List Value} {w : ab_W} {a : Nat} (h : ab_isF 3 3 (w.2 a) = true) : ab_Run ab_mt 32 111 ls (.ref a :: st) w = ab_Run ab_mt 32 114 ls (ab_fv 3 (w.2 a) :: st) w := E_get rfl h
theorem e_32_114 {ls : ab_L} {st : List Value} {w : ab_W} {x y : Int32} : ab_Run ab_mt 32 114 ls (.int y :: .int x :: st) w = if y ≤ x then ab_Run ab_mt 32 153 ls st w else ab_Run ab_mt 32 117 ls st w := E_ic_ge rfl
theorem e_32_117 {ls : ab_L} {st : List Value} {w : ab_W} : ab_Run ab_mt 32 117 ls st w = ab_Run ab_mt 32 118 ls (.int (nI 0) :: st) w := E_push (n := 1) rfl
theorem e_32_118 {ls : ab_L} {st : List Value} {w : ab_W} {x : Int32} : ab_Run ab_mt 32 118 ls (.int x :: st) w = ab_Run ab_mt 32 120 (ab_l1 ls 4 (.int x)) st w := E_stori (n := 2) rfl
theorem e_32_120 {ls : ab_L} {st : List Value} {w : ab_W} (h : ab_isI (ls 4) = true) : ab_Run ab_mt 32 120 ls st w = ab_Run ab_mt 32 122 ls (ab_gv (ls 4) :: st) w := E_loadi (n := 2) rfl h
theorem e_32_122 {ls : ab_L} {st : List Value} {w : ab_W} : ab_Run ab_mt 32 122 ls st w = ab_Run ab_mt 32 123 ls (.int (nI 3) :: st) w := E_push (n := 1) rfl
theorem e_32_123 {ls : ab_L} {st : List Value} {w : ab_W} {x y : Int32} : ab_Run ab_mt 32 123 ls (.int y :: .int x :: st) w = if y ≤ x then ab_Run ab_mt 32 147 ls st w else ab_Run ab_mt 32 126 ls st w := E_ic_ge rfl
theorem e_32_126 {ls : ab_L} {st : List Value} {w : ab_W} : ab_Run ab_mt 32 126 ls st w = ab_Run ab_mt 32 129 ls (.long (lN 31) :: st) w := E_push (n := 3) rfl
theorem e_32_129 {ls : ab_L} {st : List Value} {w : ab_W} (h : ab_isL (ls 1) = true) (h2 : (ls 2).isNone = true) : ab_Run ab_mt 32 129 ls st w = ab_Run ab_mt 32 130 ls (ab_gv (ls 1) :: st) w := E_loadl (n := 1) rfl h h2
theorem e_32_130 {ls : ab_L} {st : List Value} {w : ab_W} {x y : Int64} : ab_Run ab_mt 32 130 ls (.long y :: .long x :: st) w = ab_Run ab_mt 32 131 ls (.long (x * y) :: st) w := E_lb (f := fun x y => x * y) rfl
theorem e_32_131 {ls : ab_L} {st : List Value} {w : ab_W} (h : ab_isR (ls 0) = true) : ab_Run ab_mt 32 131 ls st w = ab_Run ab_mt 32 132 ls (ab_gv (ls 0) :: st) w := E_loadr (n := 1) rfl h
theorem e_32_132 {ls : ab_L} {st : List Value} {w : ab_W} (h : ab_isI (ls 3) = true) : ab_Run ab_mt 32 132 ls st w = ab_Run ab_mt 32 133 ls (ab_gv (ls 3) :: st) w := E_loadi (n := 1) rfl h
theorem e_32_133 {ls : ab_L} {st : List Value} {w : ab_W} (h : ab_isI (ls 4) = true) : ab_Run ab_mt 32 133 ls st w = ab_Run ab_mt 32 135 ls (ab_gv (ls 4) :: st) w := E_loadi (n := 2) rfl h
theorem e_32_135 {ls : ab_L} {st : List Value} {w : ab_W} {v0 v1 v2 : Value} (h1 : ab_recv ab_mt 23 [v0, v1, v2] w.2 = true) (h8 : ab_w8 st = true) : ab_Run ab_mt 32 135 ls (v2 :: v1 :: v0 :: st) w = ab_aft 23 32 135 ls st (ab_Cl 23 [v0, v1, v2] w) := E_call3 rfl h1 h8
theorem e_32_138 {ls : ab_L} {st : List Value} {w : ab_W} {x : Int32} : ab_Run ab_mt 32 138 ls (.int x :: st) w = ab_Run ab_mt 32 139 ls (.long x.toInt64 :: st) w := E_i2l rfl
theorem e_32_139 {ls : ab_L} {st : List Value} {w : ab_W} {x y : Int64} : ab_Run ab_mt 32 139 ls (.long y :: .long x :: st) w = ab_Run ab_mt 32 140 ls (.long (x + y) :: st) w := E_lb (f := fun x y => x + y) rfl
theorem e_32_140 {ls : ab_L} {st : List Value} {w : ab_W} {x : Int64} : ab_Run ab_mt 32 140 ls (.long x :: st) w = ab_Run ab_mt 32 141 (ab_l2 ls 1 (.long x)) st w := E_storl (n := 1) rfl
theorem e_32_141 {ls : ab_L} {st : List Value} {w : ab_W} (h : ab_isI (ls 4) = true) : ab_Run ab_mt 32 141 ls st w = ab_Run ab_mt 32 144 (ab_l1 ls 4 (.int (ab_gi (ls 4) + (nI 1)))) st w := E_iinc rfl h
theorem e_32_144 {ls : ab_L} {st : List Value} {w : ab_W} : ab_Run ab_mt 32 144 ls st w = ab_Run ab_mt 32 120 ls st w := E_goto rfl
theorem e_32_147 {ls : ab_L} {st : List Value} {w : ab_W} (h : ab_isI (ls 3) = true) : ab_Run ab_mt 32 147 ls st w = ab_Run ab_mt 32 150 (ab_l1 ls 3 (.int (ab_gi (ls 3) + (nI 1)))) st w := E_iinc rfl h
theorem e_32_150 {ls : ab_L} {st : List Value} {w : ab_W} : ab_Run ab_mt 32 150 ls st w = ab_Run ab_mt 32 103 ls st w := E_goto rfl
theorem e_32_153 {ls : ab_L} {st : List Value} {w : ab_W} : ab_Run ab_mt 32 153 ls st w = ab_Run ab_mt 32 154 ls (.int (nI 0) :: st) w := E_push (n := 1) rfl
theorem e_32_154 {ls : ab_L} {st : List Value} {w : ab_W} {x : Int32} : ab_Run ab_mt 32 154 ls (.int x :: st) w = ab_Run ab_mt 32 155 (ab_l1 ls 3 (.int x)) st w := E_stori (n := 1) rfl
theorem e_32_155 {ls : ab_L} {st : List Value} {w : ab_W} (h : ab_isI (ls 3) = true) : ab_Run ab_mt 32 155 ls st w = ab_Run ab_mt 32 156 ls (ab_gv (ls 3) :: st) w := E_loadi (n := 1) rfl h
theorem e_32_156 {ls : ab_L} {st : List Value} {w : ab_W} (h : ab_isR (ls 0) = true) : ab_Run ab_mt 32 156 ls st w = ab_Run ab_mt 32 157 ls (ab_gv (ls 0) :: st) w := E_loadr (n := 1) rfl h
theorem e_32_157 {ls : ab_L} {st : List Value} {w : ab_W} {a : Nat} (h : ab_isF 0 1 (w.2 a) = true) : ab_Run ab_mt 32 157 ls (.ref a :: st) w = ab_Run ab_mt 32 160 ls (ab_fv 1 (w.2 a) :: st) w := E_get rfl h
theorem e_32_160 {ls : ab_L} {st : List Value} {w : ab_W} {a : Nat} (h : ab_isF 2 2 (w.2 a) = true) : ab_Run ab_mt 32 160 ls (.ref a :: st) w = ab_Run ab_mt 32 163 ls (ab_fv 2 (w.2 a) :: st) w := E_get rfl h
theorem e_32_163 {ls : ab_L} {st : List Value} {w : ab_W} {a : Nat} (h : ab_isF 3 3 (w.2 a) = true) : ab_Run ab_mt 32 163 ls (.ref a :: st) w = ab_Run ab_mt 32 166 ls (ab_fv 3 (w.2 a) :: st) w := E_get rfl h
theorem e_32_166 {ls : ab_L} {st : List Value} {w : ab_W} {x y : Int32} : ab_Run ab_mt 32 166 ls (.int y :: .int x :: st) w = if y ≤ x then ab_Run ab_mt 32 204 ls st w else ab_Run ab_mt 32 169 ls st w := E_ic_ge rfl
theorem e_32_169 {ls : ab_L} {st : List Value} {w : ab_W} : ab_Run ab_mt 32 169 ls st w = ab_Run ab_mt 32 170 ls (.int (nI 0) :: st) w := E_push (n := 1) rfl
theorem e_32_170 {ls : ab_L} {st : List Value} {w : ab_W} {x : Int32} : ab_Run ab_mt 32 170 ls (.int x :: st) w = ab_Run ab_mt 32 172 (ab_l1 ls 4 (.int x)) st w := E_stori (n := 2) rfl
theorem e_32_172 {ls : ab_L} {st : List Value} {w : ab_W} (h : ab_isI (ls 4) = true) : ab_Run ab_mt 32 172 ls st w = ab_Run ab_mt 32 174 ls (ab_gv (ls 4) :: st) w := E_loadi (n := 2) rfl h
theorem e_32_174 {ls : ab_L} {st : List Value} {w : ab_W} : ab_Run ab_mt 32 174 ls st w = ab_Run ab_mt 32 175 ls (.int (nI 4) :: st) w := E_push (n := 1) rfl
theorem e_32_175 {ls : ab_L} {st : List Value} {w : ab_W} {x y : Int32} : ab_Run ab_mt 32 175 ls (.int y :: .int x :: st) w = if y < x then ab_Run ab_mt 32 198 ls st w else ab_Run ab_mt 32 178 ls st w := E_ic_gt rfl
theorem e_32_178 {ls : ab_L} {st : List Value} {w : ab_W} : ab_Run ab_mt 32 178 ls st w = ab_Run ab_mt 32 181 ls (.long (lN 31) :: st) w := E_push (n := 3) rfl
theorem e_32_181 {ls : ab_L} {st : List Value} {w : ab_W} (h : ab_isL (ls 1) = true) (h2 : (ls 2).isNone = true) : ab_Run ab_mt 32 181 ls st w = ab_Run ab_mt 32 182 ls (ab_gv (ls 1) :: st) w := E_loadl (n := 1) rfl h h2
theorem e_32_182 {ls : ab_L} {st : List Value} {w : ab_W} {x y : Int64} : ab_Run ab_mt 32 182 ls (.long y :: .long x :: st) w = ab_Run ab_mt 32 183 ls (.long (x * y) :: st) w := E_lb (f := fun x y => x * y) rfl
theorem e_32_183 {ls : ab_L} {st : List Value} {w : ab_W} (h : ab_isR (ls 0) = true) : ab_Run ab_mt 32 183 ls st w = ab_Run ab_mt 32 184 ls (ab_gv (ls 0) :: st) w := E_loadr (n := 1) rfl h
theorem e_32_184 {ls : ab_L} {st : List Value} {w : ab_W} (h : ab_isI (ls 3) = true) : ab_Run ab_mt 32 184 ls st w = ab_Run ab_mt 32 185 ls (ab_gv (ls 3) :: st) w := E_loadi (n := 1) rfl h
theorem e_32_185 {ls : ab_L} {st : List Value} {w : ab_W} (h : ab_isI (ls 4) = true) : ab_Run ab_mt 32 185 ls st w = ab_Run ab_mt 32 187 ls (ab_gv (ls 4) :: st) w := E_loadi (n := 2) rfl h
theorem e_32_187 {ls : ab_L} {st : List Value} {w : ab_W} {v0 v1 v2 : Value} (h1 : ab_recv ab_mt 24 [v0, v1, v2] w.2 = true) (h8 : ab_w8 st = true) : ab_Run ab_mt 32 187 ls (v2 :: v1 :: v0 :: st) w = ab_aft 24 32 187 ls st (ab_Cl 24 [v0, v1, v2] w) := E_call3 rfl h1 h8
theorem e_32_190 {ls : ab_L} {st : List Value} {w : ab_W} {x y : Int64} : ab_Run ab_mt 32 190 ls (.long y :: .long x :: st) w = ab_Run ab_mt 32 191 ls (.long (x + y) :: st) w := E_lb (f := fun x y => x + y) rfl
theorem e_32_191 {ls : ab_L} {st : List Value} {w : ab_W} {x : Int64} : ab_Run ab_mt 32 191 ls (.long x :: st) w = ab_Run ab_mt 32 192 (ab_l2 ls 1 (.long x)) st w := E_storl (n := 1) rfl
theorem e_32_192 {ls : ab_L} {st : List Value} {w : ab_W} (h : ab_isI (ls 4) = true) : ab_Run ab_mt 32 192 ls st w = ab_Run ab_mt 32 195 (ab_l1 ls 4 (.int (ab_gi (ls 4) + (nI 1)))) st w := E_iinc rfl h
theorem e_32_195 {ls : ab_L} {st : List Value} {w : ab_W} : ab_Run ab_mt 32 195 ls st w = ab_Run ab_mt 32 172 ls st w := E_goto rfl
theorem e_32_198 {ls : ab_L} {st : List Value} {w : ab_W} (h : ab_isI (ls 3) = true) : ab_Run ab_mt 32 198 ls st w = ab_Run ab_mt 32 201 (ab_l1 ls 3 (.int (ab_gi (ls 3) + (nI 1)))) st w := E_iinc rfl h
theorem e_32_201 {ls : ab_L} {st : List Value} {w : ab_W} : ab_Run ab_mt 32 201 ls st w = ab_Run ab_mt 32 155 ls st w := E_goto rfl
theorem e_32_204 {ls : ab_L} {st : List Value} {w : ab_W} (h : ab_isL (ls 1) = true) (h2 : (ls 2).isNone = true) : ab_Run ab_mt 32 204 ls st w = ab_Run ab_mt 32 205 ls (ab_gv (ls 1) :: st) w := E_loadl (n := 1) rfl h h2
theorem e_32_205 {ls : ab_L} {w : ab_W} {x : Int64} : ab_Run ab_mt 32 205 ls [.long x] w = some (.inl (some (.long x)), w) := E_retl rfl
theorem rv_32 {σ : ab_S} {t : Nat} {x0 : Int64} : ab_recv ab_mt 32 [.ref t, .long x0] σ = ab_isO 0 (σ t) := rfl
theorem x_32_34 {ls : ab_L} {rest : List Value} {E : Nat} {w : ab_W} : ab_aft 20 32 34 ls rest (some (.inr E, w)) = some (.inr E, w) := ab_aft_x rfl rfl (by unfold ab_hand; rfl)
theorem x_32_84 {ls : ab_L} {rest : List Value} {E : Nat} {w : ab_W} : ab_aft 21 32 84 ls rest (some (.inr E, w)) = some (.inr E, w) := ab_aft_x rfl rfl (by unfold ab_hand; rfl)
theorem x_32_135 {ls : ab_L} {rest : List Value} {E : Nat} {w : ab_W} : ab_aft 23 32 135 ls rest (some (.inr E, w)) = some (.inr E, w) := ab_aft_x rfl rfl (by unfold ab_hand; rfl)
theorem x_32_187 {ls : ab_L} {rest : List Value} {E : Nat} {w : ab_W} : ab_aft 24 32 187 ls rest (some (.inr E, w)) = some (.inr E, w) := ab_aft_x rfl rfl (by unfold ab_hand; rfl)
theorem e_33_0 {ls : ab_L} {st : List Value} {w : ab_W} (h : ab_isI (ls 0) = true) : ab_Run ab_mt 33 0 ls st w = ab_Run ab_mt 33 1 ls (ab_gv (ls 0) :: st) w := E_loadi (n := 1) rfl h
theorem e_33_1 {ls : ab_L} {st : List Value} {w : ab_W} {x : Int32} : ab_Run ab_mt 33 1 ls (.int x :: st) w = if x < 0 then ab_Run ab_mt 33 9 ls st w else ab_Run ab_mt 33 4 ls st w := E_if_lt rfl
theorem e_33_4 {ls : ab_L} {st : List Value} {w : ab_W} (h : ab_isI (ls 0) = true) : ab_Run ab_mt 33 4 ls st w = ab_Run ab_mt 33 5 ls (ab_gv (ls 0) :: st) w := E_loadi (n := 1) rfl h
theorem e_33_5 {ls : ab_L} {st : List Value} {w : ab_W} (h : ab_isI (ls 1) = true) : ab_Run ab_mt 33 5 ls st w = ab_Run ab_mt 33 6 ls (ab_gv (ls 1) :: st) w := E_loadi (n := 1) rfl h
theorem e_33_6 {ls : ab_L} {st : List Value} {w : ab_W} {x y : Int32} : ab_Run ab_mt 33 6 ls (.int y :: .int x :: st) w = if x < y then ab_Run ab_mt 33 20 ls st w else ab_Run ab_mt 33 9 ls st w := E_ic_lt rfl
theorem e_33_9 {ls : ab_L} {w : ab_W} : ab_Run ab_mt 33 9 ls [] w = some (.inr 2, (ab_th w.1, w.2)) := E_thr rfl
theorem e_33_20 {ls : ab_L} {w : ab_W} : ab_Run ab_mt 33 20 ls [] w = some (.inl none, w) := E_ret0 rfl
theorem rv_33 {σ : ab_S} {x0 : Int32} {x1 : Int32} : ab_recv ab_mt 33 [.int x0, .int x1] σ = true := rfl
theorem e_34_0 {ls : ab_L} {st : List Value} {w : ab_W} (h : ab_isL (ls 0) = true) (h2 : (ls 1).isNone = true) : ab_Run ab_mt 34 0 ls st w = ab_Run ab_mt 34 1 ls (ab_gv (ls 0) :: st) w := E_loadl (n := 1) rfl h h2
theorem e_34_1 {ls : ab_L} {st : List Value} {w : ab_W} (h : ab_isL (ls 2) = true) (h2 : (ls 3).isNone = true) : ab_Run ab_mt 34 1 ls st w = ab_Run ab_mt 34 2 ls (ab_gv (ls 2) :: st) w := E_loadl (n := 1) rfl h h2
theorem e_34_2 {ls : ab_L} {st : List Value} {w : ab_W} {x y : Int64} : ab_Run ab_mt 34 2 ls (.long y :: .long x :: st) w = ab_Run ab_mt 34 3 ls (.int (lg_cmp x y) :: st) w := E_lcmp rfl
theorem e_34_3 {ls : ab_L} {st : List Value} {w : ab_W} {x : Int32} : ab_Run ab_mt 34 3 ls (.int x :: st) w = if x < 0 then ab_Run ab_mt 34 13 ls st w else ab_Run ab_mt 34 6 ls st w := E_if_lt rfl
theorem e_34_6 {ls : ab_L} {st : List Value} {w : ab_W} (h : ab_isL (ls 0) = true) (h2 : (ls 1).isNone = true) : ab_Run ab_mt 34 6 ls st w = ab_Run ab_mt 34 7 ls (ab_gv (ls 0) :: st) w := E_loadl (n := 1) rfl h h2
theorem e_34_7 {ls : ab_L} {st : List Value} {w : ab_W} (h : ab_isL (ls 4) = true) (h2 : (ls 5).isNone = true) : ab_Run ab_mt 34 7 ls st w = ab_Run ab_mt 34 9 ls (ab_gv (ls 4) :: st) w := E_loadl (n := 2) rfl h h2
theorem e_34_9 {ls : ab_L} {st : List Value} {w : ab_W} {x y : Int64} : ab_Run ab_mt 34 9 ls (.long y :: .long x :: st) w = ab_Run ab_mt 34 10 ls (.int (lg_cmp x y) :: st) w := E_lcmp rfl
theorem e_34_10 {ls : ab_L} {st : List Value} {w : ab_W} {x : Int32} : ab_Run ab_mt 34 10 ls (.int x :: st) w = if x ≤ 0 then ab_Run ab_mt 34 24 ls st w else ab_Run ab_mt 34 13 ls st w := E_if_le rfl
theorem e_34_13 {ls : ab_L} {w : ab_W} : ab_Run ab_mt 34 13 ls [] w = some (.inr 1, (ab_th w.1, w.2)) := E_thr rfl
theorem e_34_24 {ls : ab_L} {w : ab_W} : ab_Run ab_mt 34 24 ls [] w = some (.inl none, w) := E_ret0 rfl
theorem rv_34 {σ : ab_S} {x0 : Int64} {x1 : Int64} {x2 : Int64} : ab_recv ab_mt 34 [.long x0, .long x1, .long x2] σ = true := rfl
theorem e_35_0 {ls : ab_L} {st : List Value} {w : ab_W} (h : ab_isR (ls 0) = true) : ab_Run ab_mt 35 0 ls st w = ab_Run ab_mt 35 1 ls (ab_gv (ls 0) :: st) w := E_loadr (n := 1) rfl h
theorem e_35_1 {ls : ab_L} {st : List Value} {w : ab_W} {a : Nat} (h : ab_isF 3 3 (w.2 a) = true) : ab_Run ab_mt 35 1 ls (.ref a :: st) w = ab_Run ab_mt 35 4 ls (ab_fv 3 (w.2 a) :: st) w := E_get rfl h
theorem e_35_4 {ls : ab_L} {st : List Value} {w : ab_W} (h : ab_isI (ls 1) = true) : ab_Run ab_mt 35 4 ls st w = ab_Run ab_mt 35 5 ls (ab_gv (ls 1) :: st) w := E_loadi (n := 1) rfl h
theorem e_35_5 {ls : ab_L} {st : List Value} {w : ab_W} {x y : Int32} : ab_Run ab_mt 35 5 ls (.int y :: .int x :: st) w = ab_Run ab_mt 35 6 ls (.int (x + y) :: st) w := E_ib (f := fun x y => x + y) rfl
theorem e_35_6 {ls : ab_L} {st : List Value} {w : ab_W} (h : ab_isI (ls 2) = true) : ab_Run ab_mt 35 6 ls st w = ab_Run ab_mt 35 7 ls (ab_gv (ls 2) :: st) w := E_loadi (n := 1) rfl h
theorem e_35_7 {ls : ab_L} {st : List Value} {w : ab_W} {x y : Int32} : ab_Run ab_mt 35 7 ls (.int y :: .int x :: st) w = if x ≤ y then ab_Run ab_mt 35 21 ls st w else ab_Run ab_mt 35 10 ls st w := E_ic_le rfl
theorem e_35_10 {ls : ab_L} {w : ab_W} : ab_Run ab_mt 35 10 ls [] w = some (.inr 0, (ab_th w.1, w.2)) := E_thr rfl
theorem e_35_21 {ls : ab_L} {w : ab_W} : ab_Run ab_mt 35 21 ls [] w = some (.inl none, w) := E_ret0 rfl
theorem rv_35 {σ : ab_S} {x0 : Nat} {x1 : Int32} {x2 : Int32} : ab_recv ab_mt 35 [.ref x0, .int x1, .int x2] σ = true := rfl
theorem e_36_0 {ls : ab_L} {st : List Value} {w : ab_W} (h : ab_isR (ls 0) = true) : ab_Run ab_mt 36 0 ls st w = ab_Run ab_mt 36 1 ls (ab_gv (ls 0) :: st) w := E_loadr (n := 1) rfl h
theorem e_36_1 {ls : ab_L} {st : List Value} {w : ab_W} {a : Nat} (h : ab_isF 0 2 (w.2 a) = true) : ab_Run ab_mt 36 1 ls (.ref a :: st) w = ab_Run ab_mt 36 4 ls (ab_fv 2 (w.2 a) :: st) w := E_get rfl h
theorem e_36_4 {ls : ab_L} {st : List Value} {w : ab_W} {a : Nat} (h : ab_isF 4 6 (w.2 a) = true) : ab_Run ab_mt 36 4 ls (.ref a :: st) w = ab_Run ab_mt 36 7 ls (ab_fv 6 (w.2 a) :: st) w := E_get rfl h
theorem e_36_7 {ls : ab_L} {st : List Value} {w : ab_W} {x : Int32} : ab_Run ab_mt 36 7 ls (.int x :: st) w = if x = 0 then ab_Run ab_mt 36 21 ls st w else ab_Run ab_mt 36 10 ls st w := E_if_eq rfl
theorem e_36_10 {ls : ab_L} {w : ab_W} : ab_Run ab_mt 36 10 ls [] w = some (.inr 0, (ab_th w.1, w.2)) := E_thr rfl
theorem e_36_21 {ls : ab_L} {w : ab_W} : ab_Run ab_mt 36 21 ls [] w = some (.inl none, w) := E_ret0 rfl
theorem rv_36 {σ : ab_S} {t : Nat} : ab_recv ab_mt 36 [.ref t] σ = ab_isO 0 (σ t) := rfl
theorem e_37_0 {ls : ab_L} {st : List Value} {w : ab_W} (h : ab_isR (ls 0) = true) : ab_Run ab_mt 37 0 ls st w = ab_Run ab_mt 37 1 ls (ab_gv (ls 0) :: st) w := E_loadr (n := 1) rfl h
theorem e_37_1 {ls : ab_L} {st : List Value} {w : ab_W} {a : Nat} (h : ab_isF 0 2 (w.2 a) = true) : ab_Run ab_mt 37 1 ls (.ref a :: st) w = ab_Run ab_mt 37 4 ls (ab_fv 2 (w.2 a) :: st) w := E_get rfl h
theorem e_37_4 {ls : ab_L} {st : List Value} {w : ab_W} {a : Nat} (h : ab_isF 4 6 (w.2 a) = true) : ab_Run ab_mt 37 4 ls (.ref a :: st) w = ab_Run ab_mt 37 7 ls (ab_fv 6 (w.2 a) :: st) w := E_get rfl h
theorem e_37_7 {ls : ab_L} {st : List Value} {w : ab_W} {x : Int32} : ab_Run ab_mt 37 7 ls (.int x :: st) w = if x = 0 then ab_Run ab_mt 37 10 ls st w else ab_Run ab_mt 37 21 ls st w := E_if_ne rfl
theorem e_37_10 {ls : ab_L} {w : ab_W} : ab_Run ab_mt 37 10 ls [] w = some (.inr 0, (ab_th w.1, w.2)) := E_thr rfl
theorem e_37_21 {ls : ab_L} {w : ab_W} : ab_Run ab_mt 37 21 ls [] w = some (.inl none, w) := E_ret0 rfl
theorem rv_37 {σ : ab_S} {t : Nat} : ab_recv ab_mt 37 [.ref t] σ = ab_isO 0 (σ t) := rfl
theorem e_38_0 {ls : ab_L} {st : List Value} {w : ab_W} : ab_Run ab_mt 38 0 ls st w = ab_Run ab_mt 38 1 ls (.int (nI 1) :: st) w := E_push (n := 1) rfl
theorem e_38_1 {ls : ab_L} {st : List Value} {w : ab_W} (h : ab_isR (ls 0) = true) : ab_Run ab_mt 38 1 ls st w = ab_Run ab_mt 38 2 ls (ab_gv (ls 0) :: st) w := E_loadr (n := 1) rfl h
theorem e_38_2 {ls : ab_L} {st : List Value} {w : ab_W} {a : Nat} (h : ab_isF 0 1 (w.2 a) = true) : ab_Run ab_mt 38 2 ls (.ref a :: st) w = ab_Run ab_mt 38 5 ls (ab_fv 1 (w.2 a) :: st) w := E_get rfl h
theorem e_38_5 {ls : ab_L} {st : List Value} {w : ab_W} {a : Nat} (h : ab_isF 2 0 (w.2 a) = true) : ab_Run ab_mt 38 5 ls (.ref a :: st) w = ab_Run ab_mt 38 8 ls (ab_fv 0 (w.2 a) :: st) w := E_get rfl h
theorem e_38_8 {ls : ab_L} {st : List Value} {w : ab_W} (h : ab_isI (ls 1) = true) : ab_Run ab_mt 38 8 ls st w = ab_Run ab_mt 38 9 ls (ab_gv (ls 1) :: st) w := E_loadi (n := 1) rfl h
theorem e_38_9 {ls : ab_L} {st : List Value} {w : ab_W} : ab_Run ab_mt 38 9 ls st w = ab_Run ab_mt 38 10 ls (.int (nI 0) :: st) w := E_push (n := 1) rfl
theorem e_38_10 {ls : ab_L} {st : List Value} {w : ab_W} {v0 v1 v2 : Value} (h1 : ab_recv ab_mt 75 [v0, v1, v2] w.2 = true) (h8 : ab_w8 st = true) : ab_Run ab_mt 38 10 ls (v2 :: v1 :: v0 :: st) w = ab_aft 75 38 10 ls st (ab_Cl 75 [v0, v1, v2] w) := E_call3 rfl h1 h8
theorem e_38_13 {ls : ab_L} {st : List Value} {w : ab_W} {x y : Int32} : ab_Run ab_mt 38 13 ls (.int y :: .int x :: st) w = ab_Run ab_mt 38 14 ls (.int (x <<< (y &&& 31)) :: st) w := E_ib (f := fun x y => x <<< (y &&& 31)) rfl
theorem e_38_14 {ls : ab_L} {st : List Value} {w : ab_W} : ab_Run ab_mt 38 14 ls st w = ab_Run ab_mt 38 15 ls (.int (nI 1) :: st) w := E_push (n := 1) rfl
theorem e_38_15 {ls : ab_L} {st : List Value} {w : ab_W} {x y : Int32} : ab_Run ab_mt 38 15 ls (.int y :: .int x :: st) w = ab_Run ab_mt 38 16 ls (.int (x - y) :: st) w := E_ib (f := fun x y => x - y) rfl
theorem e_38_16 {ls : ab_L} {st : List Value} {w : ab_W} {x : Int32} : ab_Run ab_mt 38 16 ls (.int x :: st) w = ab_Run ab_mt 38 17 (ab_l1 ls 2 (.int x)) st w := E_stori (n := 1) rfl
theorem e_38_17 {ls : ab_L} {st : List Value} {w : ab_W} (h : ab_isR (ls 0) = true) : ab_Run ab_mt 38 17 ls st w = ab_Run ab_mt 38 18 ls (ab_gv (ls 0) :: st) w := E_loadr (n := 1) rfl h
theorem e_38_18 {ls : ab_L} {st : List Value} {w : ab_W} {a : Nat} (h : ab_isF 0 1 (w.2 a) = true) : ab_Run ab_mt 38 18 ls (.ref a :: st) w = ab_Run ab_mt 38 21 ls (ab_fv 1 (w.2 a) :: st) w := E_get rfl h
theorem e_38_21 {ls : ab_L} {st : List Value} {w : ab_W} {a : Nat} (h : ab_isF 2 0 (w.2 a) = true) : ab_Run ab_mt 38 21 ls (.ref a :: st) w = ab_Run ab_mt 38 24 ls (ab_fv 0 (w.2 a) :: st) w := E_get rfl h
theorem e_38_24 {ls : ab_L} {st : List Value} {w : ab_W} (h : ab_isI (ls 1) = true) : ab_Run ab_mt 38 24 ls st w = ab_Run ab_mt 38 25 ls (ab_gv (ls 1) :: st) w := E_loadi (n := 1) rfl h
theorem e_38_25 {ls : ab_L} {st : List Value} {w : ab_W} : ab_Run ab_mt 38 25 ls st w = ab_Run ab_mt 38 26 ls (.int (nI 4) :: st) w := E_push (n := 1) rfl
theorem e_38_26 {ls : ab_L} {st : List Value} {w : ab_W} (h : ab_isR (ls 0) = true) : ab_Run ab_mt 38 26 ls st w = ab_Run ab_mt 38 27 ls (ab_gv (ls 0) :: st) w := E_loadr (n := 1) rfl h
theorem e_38_27 {ls : ab_L} {st : List Value} {w : ab_W} {a : Nat} (h : ab_isF 0 1 (w.2 a) = true) : ab_Run ab_mt 38 27 ls (.ref a :: st) w = ab_Run ab_mt 38 30 ls (ab_fv 1 (w.2 a) :: st) w := E_get rfl h
theorem e_38_30 {ls : ab_L} {st : List Value} {w : ab_W} {a : Nat} (h : ab_isF 2 0 (w.2 a) = true) : ab_Run ab_mt 38 30 ls (.ref a :: st) w = ab_Run ab_mt 38 33 ls (ab_fv 0 (w.2 a) :: st) w := E_get rfl h
theorem e_38_33 {ls : ab_L} {st : List Value} {w : ab_W} (h : ab_isI (ls 1) = true) : ab_Run ab_mt 38 33 ls st w = ab_Run ab_mt 38 34 ls (ab_gv (ls 1) :: st) w := E_loadi (n := 1) rfl h
theorem e_38_34 {ls : ab_L} {st : List Value} {w : ab_W} : ab_Run ab_mt 38 34 ls st w = ab_Run ab_mt 38 35 ls (.int (nI 4) :: st) w := E_push (n := 1) rfl
theorem e_38_35 {ls : ab_L} {st : List Value} {w : ab_W} {v0 v1 v2 : Value} (h1 : ab_recv ab_mt 75 [v0, v1, v2] w.2 = true) (h8 : ab_w8 st = true) : ab_Run ab_mt 38 35 ls (v2 :: v1 :: v0 :: st) w = ab_aft 75 38 35 ls st (ab_Cl 75 [v0, v1, v2] w) := E_call3 rfl h1 h8
theorem e_38_38 {ls : ab_L} {st : List Value} {w : ab_W} (h : ab_isI (ls 2) = true) : ab_Run ab_mt 38 38 ls st w = ab_Run ab_mt 38 39 ls (ab_gv (ls 2) :: st) w := E_loadi (n := 1) rfl h
theorem e_38_39 {ls : ab_L} {st : List Value} {w : ab_W} {x y : Int32} : ab_Run ab_mt 38 39 ls (.int y :: .int x :: st) w = ab_Run ab_mt 38 40 ls (.int (x &&& y) :: st) w := E_ib (f := fun x y => x &&& y) rfl
theorem e_38_40 {ls : ab_L} {st : List Value} {w : ab_W} {v0 v1 v2 v3 : Value} (h1 : ab_recv ab_mt 76 [v0, v1, v2, v3] w.2 = true) (h8 : ab_w8 st = true) : ab_Run ab_mt 38 40 ls (v3 :: v2 :: v1 :: v0 :: st) w = ab_aft 76 38 40 ls st (ab_Cl 76 [v0, v1, v2, v3] w) := E_call4 rfl h1 h8
theorem e_38_43 {ls : ab_L} {w : ab_W} : ab_Run ab_mt 38 43 ls [] w = some (.inl none, w) := E_ret0 rfl
theorem rv_38 {σ : ab_S} {t : Nat} {x0 : Int32} : ab_recv ab_mt 38 [.ref t, .int x0] σ = ab_isO 0 (σ t) := rfl
theorem e_39_0 {ls : ab_L} {st : List Value} {w : ab_W} (h : ab_isR (ls 0) = true) : ab_Run ab_mt 39 0 ls st w = ab_Run ab_mt 39 1 ls (ab_gv (ls 0) :: st) w := E_loadr (n := 1) rfl h
theorem e_39_1 {ls : ab_L} {st : List Value} {w : ab_W} {a : Nat} (h : ab_isF 3 3 (w.2 a) = true) : ab_Run ab_mt 39 1 ls (.ref a :: st) w = ab_Run ab_mt 39 4 ls (ab_fv 3 (w.2 a) :: st) w := E_get rfl h
theorem e_39_4 {ls : ab_L} {st : List Value} {w : ab_W} {x : Int32} : ab_Run ab_mt 39 4 ls (.int x :: st) w = ab_Run ab_mt 39 5 (ab_l1 ls 3 (.int x)) st w := E_stori (n := 1) rfl
theorem e_39_5 {ls : ab_L} {st : List Value} {w : ab_W} (h : ab_isR (ls 0) = true) : ab_Run ab_mt 39 5 ls st w = ab_Run ab_mt 39 6 ls (ab_gv (ls 0) :: st) w := E_loadr (n := 1) rfl h
theorem e_39_6 {ls : ab_L} {st : List Value} {w : ab_W} (h : ab_isI (ls 3) = true) : ab_Run ab_mt 39 6 ls st w = ab_Run ab_mt 39 7 ls (ab_gv (ls 3) :: st) w := E_loadi (n := 1) rfl h
theorem e_39_7 {ls : ab_L} {st : List Value} {w : ab_W} {v0 v1 : Value} (h1 : ab_recv ab_mt 77 [v0, v1] w.2 = true) (h8 : ab_w8 st = true) : ab_Run ab_mt 39 7 ls (v1 :: v0 :: st) w = ab_aft 77 39 7 ls st (ab_Cl 77 [v0, v1] w) := E_call2 rfl h1 h8
theorem e_39_10 {ls : ab_L} {st : List Value} {w : ab_W} (h : ab_isR (ls 0) = true) : ab_Run ab_mt 39 10 ls st w = ab_Run ab_mt 39 11 ls (ab_gv (ls 0) :: st) w := E_loadr (n := 1) rfl h
theorem e_39_11 {ls : ab_L} {st : List Value} {w : ab_W} (h : ab_isI (ls 3) = true) : ab_Run ab_mt 39 11 ls st w = ab_Run ab_mt 39 12 ls (ab_gv (ls 3) :: st) w := E_loadi (n := 1) rfl h
theorem e_39_12 {ls : ab_L} {st : List Value} {w : ab_W} : ab_Run ab_mt 39 12 ls st w = ab_Run ab_mt 39 13 ls (.int (nI 0) :: st) w := E_push (n := 1) rfl
theorem e_39_13 {ls : ab_L} {st : List Value} {w : ab_W} (h : ab_isI (ls 1) = true) : ab_Run ab_mt 39 13 ls st w = ab_Run ab_mt 39 14 ls (ab_gv (ls 1) :: st) w := E_loadi (n := 1) rfl h
theorem e_39_14 {ls : ab_L} {st : List Value} {w : ab_W} {v0 v1 v2 v3 : Value} (h1 : ab_recv ab_mt 76 [v0, v1, v2, v3] w.2 = true) (h8 : ab_w8 st = true) : ab_Run ab_mt 39 14 ls (v3 :: v2 :: v1 :: v0 :: st) w = ab_aft 76 39 14 ls st (ab_Cl 76 [v0, v1, v2, v3] w) := E_call4 rfl h1 h8
theorem e_39_17 {ls : ab_L} {st : List Value} {w : ab_W} (h : ab_isR (ls 0) = true) : ab_Run ab_mt 39 17 ls st w = ab_Run ab_mt 39 18 ls (ab_gv (ls 0) :: st) w := E_loadr (n := 1) rfl h
theorem e_39_18 {ls : ab_L} {st : List Value} {w : ab_W} (h : ab_isI (ls 3) = true) : ab_Run ab_mt 39 18 ls st w = ab_Run ab_mt 39 19 ls (ab_gv (ls 3) :: st) w := E_loadi (n := 1) rfl h
theorem e_39_19 {ls : ab_L} {st : List Value} {w : ab_W} : ab_Run ab_mt 39 19 ls st w = ab_Run ab_mt 39 20 ls (.int (nI 1) :: st) w := E_push (n := 1) rfl
theorem e_39_20 {ls : ab_L} {st : List Value} {w : ab_W} (h : ab_isI (ls 2) = true) : ab_Run ab_mt 39 20 ls st w = ab_Run ab_mt 39 21 ls (ab_gv (ls 2) :: st) w := E_loadi (n := 1) rfl h
theorem e_39_21 {ls : ab_L} {st : List Value} {w : ab_W} {v0 v1 v2 v3 : Value} (h1 : ab_recv ab_mt 76 [v0, v1, v2, v3] w.2 = true) (h8 : ab_w8 st = true) : ab_Run ab_mt 39 21 ls (v3 :: v2 :: v1 :: v0 :: st) w = ab_aft 76 39 21 ls st (ab_Cl 76 [v0, v1, v2, v3] w) := E_call4 rfl h1 h8
theorem e_39_24 {ls : ab_L} {st : List Value} {w : ab_W} (h : ab_isR (ls 0) = true) : ab_Run ab_mt 39 24 ls st w = ab_Run ab_mt 39 25 ls (ab_gv (ls 0) :: st) w := E_loadr (n := 1) rfl h
theorem e_39_25 {ls : ab_L} {st : List Value} {w : ab_W} (h : ab_isI (ls 3) = true) : ab_Run ab_mt 39 25 ls st w = ab_Run ab_mt 39 26 ls (ab_gv (ls 3) :: st) w := E_loadi (n := 1) rfl h
theorem e_39_26 {ls : ab_L} {st : List Value} {w : ab_W} : ab_Run ab_mt 39 26 ls st w = ab_Run ab_mt 39 27 ls (.int (nI 2) :: st) w := E_push (n := 1) rfl
theorem e_39_27 {ls : ab_L} {st : List Value} {w : ab_W} : ab_Run ab_mt 39 27 ls st w = ab_Run ab_mt 39 28 ls (.int (nI 0) :: st) w := E_push (n := 1) rfl
theorem e_39_28 {ls : ab_L} {st : List Value} {w : ab_W} {v0 v1 v2 v3 : Value} (h1 : ab_recv ab_mt 76 [v0, v1, v2, v3] w.2 = true) (h8 : ab_w8 st = true) : ab_Run ab_mt 39 28 ls (v3 :: v2 :: v1 :: v0 :: st) w = ab_aft 76 39 28 ls st (ab_Cl 76 [v0, v1, v2, v3] w) := E_call4 rfl h1 h8
theorem e_39_31 {ls : ab_L} {st : List Value} {w : ab_W} (h : ab_isR (ls 0) = true) : ab_Run ab_mt 39 31 ls st w = ab_Run ab_mt 39 32 ls (ab_gv (ls 0) :: st) w := E_loadr (n := 1) rfl h
theorem e_39_32 {ls : ab_L} {st : List Value} {w : ab_W} (h : ab_isI (ls 3) = true) : ab_Run ab_mt 39 32 ls st w = ab_Run ab_mt 39 33 ls (ab_gv (ls 3) :: st) w := E_loadi (n := 1) rfl h
theorem e_39_33 {ls : ab_L} {st : List Value} {w : ab_W} : ab_Run ab_mt 39 33 ls st w = ab_Run ab_mt 39 34 ls (.int (nI 3) :: st) w := E_push (n := 1) rfl
theorem e_39_34 {ls : ab_L} {st : List Value} {w : ab_W} : ab_Run ab_mt 39 34 ls st w = ab_Run ab_mt 39 35 ls (.int (nI 0) :: st) w := E_push (n := 1) rfl
theorem e_39_35 {ls : ab_L} {st : List Value} {w : ab_W} {v0 v1 v2 v3 : Value} (h1 : ab_recv ab_mt 76 [v0, v1, v2, v3] w.2 = true) (h8 : ab_w8 st = true) : ab_Run ab_mt 39 35 ls (v3 :: v2 :: v1 :: v0 :: st) w = ab_aft 76 39 35 ls st (ab_Cl 76 [v0, v1, v2, v3] w) := E_call4 rfl h1 h8
theorem e_39_38 {ls : ab_L} {st : List Value} {w : ab_W} (h : ab_isR (ls 0) = true) : ab_Run ab_mt 39 38 ls st w = ab_Run ab_mt 39 39 ls (ab_gv (ls 0) :: st) w := E_loadr (n := 1) rfl h
theorem e_39_39 {ls : ab_L} {st : List Value} {w : ab_W} (h : ab_isI (ls 3) = true) : ab_Run ab_mt 39 39 ls st w = ab_Run ab_mt 39 40 ls (ab_gv (ls 3) :: st) w := E_loadi (n := 1) rfl h
theorem e_39_40 {ls : ab_L} {st : List Value} {w : ab_W} : ab_Run ab_mt 39 40 ls st w = ab_Run ab_mt 39 41 ls (.int (nI 4) :: st) w := E_push (n := 1) rfl
theorem e_39_41 {ls : ab_L} {st : List Value} {w : ab_W} : ab_Run ab_mt 39 41 ls st w = ab_Run ab_mt 39 42 ls (.int (nI 1) :: st) w := E_push (n := 1) rfl
theorem e_39_42 {ls : ab_L} {st : List Value} {w : ab_W} {v0 v1 v2 v3 : Value} (h1 : ab_recv ab_mt 76 [v0, v1, v2, v3] w.2 = true) (h8 : ab_w8 st = true) : ab_Run ab_mt 39 42 ls (v3 :: v2 :: v1 :: v0 :: st) w = ab_aft 76 39 42 ls st (ab_Cl 76 [v0, v1, v2, v3] w) := E_call4 rfl h1 h8
theorem e_39_45 {ls : ab_L} {w : ab_W} : ab_Run ab_mt 39 45 ls [] w = some (.inl none, w) := E_ret0 rfl
theorem rv_39 {σ : ab_S} {x0 : Nat} {x1 : Int32} {x2 : Int32} : ab_recv ab_mt 39 [.ref x0, .int x1, .int x2] σ = true := rfl
theorem e_40_0 {ls : ab_L} {st : List Value} {w : ab_W} : ab_Run ab_mt 40 0 ls st w = ab_Run ab_mt 40 1 ls (.int (nI 0) :: st) w := E_push (n := 1) rfl
theorem e_40_1 {ls : ab_L} {st : List Value} {w : ab_W} {x : Int32} : ab_Run ab_mt 40 1 ls (.int x :: st) w = ab_Run ab_mt 40 2 (ab_l1 ls 2 (.int x)) st w := E_stori (n := 1) rfl
theorem e_40_2 {ls : ab_L} {st : List Value} {w : ab_W} (h : ab_isI (ls 2) = true) : ab_Run ab_mt 40 2 ls st w = ab_Run ab_mt 40 3 ls (ab_gv (ls 2) :: st) w := E_loadi (n := 1) rfl h
theorem e_40_3 {ls : ab_L} {st : List Value} {w : ab_W} (h : ab_isR (ls 0) = true) : ab_Run ab_mt 40 3 ls st w = ab_Run ab_mt 40 4 ls (ab_gv (ls 0) :: st) w := E_loadr (n := 1) rfl h
theorem e_40_4 {ls : ab_L} {st : List Value} {w : ab_W} {a : Nat} (h : ab_isF 3 3 (w.2 a) = true) : ab_Run ab_mt 40 4 ls (.ref a :: st) w = ab_Run ab_mt 40 7 ls (ab_fv 3 (w.2 a) :: st) w := E_get rfl h
theorem e_40_7 {ls : ab_L} {st : List Value} {w : ab_W} {x y : Int32} : ab_Run ab_mt 40 7 ls (.int y :: .int x :: st) w = if y ≤ x then ab_Run ab_mt 40 26 ls st w else ab_Run ab_mt 40 10 ls st w := E_ic_ge rfl
theorem e_40_10 {ls : ab_L} {st : List Value} {w : ab_W} (h : ab_isR (ls 0) = true) : ab_Run ab_mt 40 10 ls st w = ab_Run ab_mt 40 11 ls (ab_gv (ls 0) :: st) w := E_loadr (n := 1) rfl h
theorem e_40_11 {ls : ab_L} {st : List Value} {w : ab_W} (h : ab_isI (ls 2) = true) : ab_Run ab_mt 40 11 ls st w = ab_Run ab_mt 40 12 ls (ab_gv (ls 2) :: st) w := E_loadi (n := 1) rfl h
theorem e_40_12 {ls : ab_L} {st : List Value} {w : ab_W} : ab_Run ab_mt 40 12 ls st w = ab_Run ab_mt 40 13 ls (.int (nI 0) :: st) w := E_push (n := 1) rfl
theorem e_40_13 {ls : ab_L} {st : List Value} {w : ab_W} {v0 v1 v2 : Value} (h1 : ab_recv ab_mt 75 [v0, v1, v2] w.2 = true) (h8 : ab_w8 st = true) : ab_Run ab_mt 40 13 ls (v2 :: v1 :: v0 :: st) w = ab_aft 75 40 13 ls st (ab_Cl 75 [v0, v1, v2] w) := E_call3 rfl h1 h8
theorem e_40_16 {ls : ab_L} {st : List Value} {w : ab_W} (h : ab_isI (ls 1) = true) : ab_Run ab_mt 40 16 ls st w = ab_Run ab_mt 40 17 ls (ab_gv (ls 1) :: st) w := E_loadi (n := 1) rfl h
theorem e_40_17 {ls : ab_L} {st : List Value} {w : ab_W} {x y : Int32} : ab_Run ab_mt 40 17 ls (.int y :: .int x :: st) w = if y ≤ x then ab_Run ab_mt 40 26 ls st w else ab_Run ab_mt 40 20 ls st w := E_ic_ge rfl
theorem e_40_20 {ls : ab_L} {st : List Value} {w : ab_W} (h : ab_isI (ls 2) = true) : ab_Run ab_mt 40 20 ls st w = ab_Run ab_mt 40 23 (ab_l1 ls 2 (.int (ab_gi (ls 2) + (nI 1)))) st w := E_iinc rfl h
theorem e_40_23 {ls : ab_L} {st : List Value} {w : ab_W} : ab_Run ab_mt 40 23 ls st w = ab_Run ab_mt 40 2 ls st w := E_goto rfl
theorem e_40_26 {ls : ab_L} {st : List Value} {w : ab_W} (h : ab_isI (ls 2) = true) : ab_Run ab_mt 40 26 ls st w = ab_Run ab_mt 40 27 ls (ab_gv (ls 2) :: st) w := E_loadi (n := 1) rfl h
theorem e_40_27 {ls : ab_L} {w : ab_W} {x : Int32} : ab_Run ab_mt 40 27 ls [.int x] w = some (.inl (some (.int x)), w) := E_reti rfl
theorem rv_40 {σ : ab_S} {x0 : Nat} {x1 : Int32} : ab_recv ab_mt 40 [.ref x0, .int x1] σ = true := rfl
theorem e_41_0 {ls : ab_L} {st : List Value} {w : ab_W} (h : ab_isI (ls 1) = true) : ab_Run ab_mt 41 0 ls st w = ab_Run ab_mt 41 1 ls (ab_gv (ls 1) :: st) w := E_loadi (n := 1) rfl h
theorem e_41_1 {ls : ab_L} {st : List Value} {w : ab_W} (h : ab_isR (ls 0) = true) : ab_Run ab_mt 41 1 ls st w = ab_Run ab_mt 41 2 ls (ab_gv (ls 0) :: st) w := E_loadr (n := 1) rfl h
theorem e_41_2 {ls : ab_L} {st : List Value} {w : ab_W} {a : Nat} (h : ab_isF 3 3 (w.2 a) = true) : ab_Run ab_mt 41 2 ls (.ref a :: st) w = ab_Run ab_mt 41 5 ls (ab_fv 3 (w.2 a) :: st) w := E_get rfl h
theorem e_41_5 {ls : ab_L} {st : List Value} {w : ab_W} {x y : Int32} : ab_Run ab_mt 41 5 ls (.int y :: .int x :: st) w = if y ≤ x then ab_Run ab_mt 41 22 ls st w else ab_Run ab_mt 41 8 ls st w := E_ic_ge rfl
theorem e_41_8 {ls : ab_L} {st : List Value} {w : ab_W} (h : ab_isR (ls 0) = true) : ab_Run ab_mt 41 8 ls st w = ab_Run ab_mt 41 9 ls (ab_gv (ls 0) :: st) w := E_loadr (n := 1) rfl h
theorem e_41_9 {ls : ab_L} {st : List Value} {w : ab_W} (h : ab_isI (ls 1) = true) : ab_Run ab_mt 41 9 ls st w = ab_Run ab_mt 41 10 ls (ab_gv (ls 1) :: st) w := E_loadi (n := 1) rfl h
theorem e_41_10 {ls : ab_L} {st : List Value} {w : ab_W} : ab_Run ab_mt 41 10 ls st w = ab_Run ab_mt 41 11 ls (.int (nI 0) :: st) w := E_push (n := 1) rfl
theorem e_41_11 {ls : ab_L} {st : List Value} {w : ab_W} {v0 v1 v2 : Value} (h1 : ab_recv ab_mt 75 [v0, v1, v2] w.2 = true) (h8 : ab_w8 st = true) : ab_Run ab_mt 41 11 ls (v2 :: v1 :: v0 :: st) w = ab_aft 75 41 11 ls st (ab_Cl 75 [v0, v1, v2] w) := E_call3 rfl h1 h8
theorem e_41_14 {ls : ab_L} {st : List Value} {w : ab_W} (h : ab_isI (ls 2) = true) : ab_Run ab_mt 41 14 ls st w = ab_Run ab_mt 41 15 ls (ab_gv (ls 2) :: st) w := E_loadi (n := 1) rfl h
theorem e_41_15 {ls : ab_L} {st : List Value} {w : ab_W} {x y : Int32} : ab_Run ab_mt 41 15 ls (.int y :: .int x :: st) w = if x = y then ab_Run ab_mt 41 18 ls st w else ab_Run ab_mt 41 22 ls st w := E_ic_ne rfl
theorem e_41_18 {ls : ab_L} {st : List Value} {w : ab_W} : ab_Run ab_mt 41 18 ls st w = ab_Run ab_mt 41 19 ls (.int (nI 1) :: st) w := E_push (n := 1) rfl
theorem e_41_19 {ls : ab_L} {st : List Value} {w : ab_W} : ab_Run ab_mt 41 19 ls st w = ab_Run ab_mt 41 23 ls st w := E_goto rfl
theorem e_41_22 {ls : ab_L} {st : List Value} {w : ab_W} : ab_Run ab_mt 41 22 ls st w = ab_Run ab_mt 41 23 ls (.int (nI 0) :: st) w := E_push (n := 1) rfl
theorem e_41_23 {ls : ab_L} {w : ab_W} {x : Int32} (h : ab_fitr 2 (.int x) = true) : ab_Run ab_mt 41 23 ls [.int x] w = some (.inl (some (.int x)), w) := E_retz rfl h
theorem rv_41 {σ : ab_S} {x0 : Nat} {x1 : Int32} {x2 : Int32} : ab_recv ab_mt 41 [.ref x0, .int x1, .int x2] σ = true := rfl
theorem e_42_0 {ls : ab_L} {st : List Value} {w : ab_W} (h : ab_isR (ls 0) = true) : ab_Run ab_mt 42 0 ls st w = ab_Run ab_mt 42 1 ls (ab_gv (ls 0) :: st) w := E_loadr (n := 1) rfl h
theorem e_42_1 {ls : ab_L} {st : List Value} {w : ab_W} (h : ab_isI (ls 1) = true) : ab_Run ab_mt 42 1 ls st w = ab_Run ab_mt 42 2 ls (ab_gv (ls 1) :: st) w := E_loadi (n := 1) rfl h
theorem e_42_2 {ls : ab_L} {st : List Value} {w : ab_W} {v0 v1 : Value} (h1 : ab_recv ab_mt 40 [v0, v1] w.2 = true) (h8 : ab_w8 st = true) : ab_Run ab_mt 42 2 ls (v1 :: v0 :: st) w = ab_aft 40 42 2 ls st (ab_Cl 40 [v0, v1] w) := E_call2 rfl h1 h8
theorem e_42_5 {ls : ab_L} {st : List Value} {w : ab_W} {x : Int32} : ab_Run ab_mt 42 5 ls (.int x :: st) w = ab_Run ab_mt 42 7 (ab_l1 ls 4 (.int x)) st w := E_stori (n := 2) rfl
theorem e_42_7 {ls : ab_L} {st : List Value} {w : ab_W} (h : ab_isR (ls 0) = true) : ab_Run ab_mt 42 7 ls st w = ab_Run ab_mt 42 8 ls (ab_gv (ls 0) :: st) w := E_loadr (n := 1) rfl h
theorem e_42_8 {ls : ab_L} {st : List Value} {w : ab_W} (h : ab_isI (ls 4) = true) : ab_Run ab_mt 42 8 ls st w = ab_Run ab_mt 42 10 ls (ab_gv (ls 4) :: st) w := E_loadi (n := 2) rfl h
theorem e_42_10 {ls : ab_L} {st : List Value} {w : ab_W} (h : ab_isI (ls 1) = true) : ab_Run ab_mt 42 10 ls st w = ab_Run ab_mt 42 11 ls (ab_gv (ls 1) :: st) w := E_loadi (n := 1) rfl h
theorem e_42_11 {ls : ab_L} {st : List Value} {w : ab_W} {v0 v1 v2 : Value} (h1 : ab_recv ab_mt 41 [v0, v1, v2] w.2 = true) (h8 : ab_w8 st = true) : ab_Run ab_mt 42 11 ls (v2 :: v1 :: v0 :: st) w = ab_aft 41 42 11 ls st (ab_Cl 41 [v0, v1, v2] w) := E_call3 rfl h1 h8
theorem e_42_14 {ls : ab_L} {st : List Value} {w : ab_W} {x : Int32} : ab_Run ab_mt 42 14 ls (.int x :: st) w = if x = 0 then ab_Run ab_mt 42 17 ls st w else ab_Run ab_mt 42 23 ls st w := E_if_ne rfl
theorem e_42_17 {ls : ab_L} {st : List Value} {w : ab_W} (h : ab_isR (ls 0) = true) : ab_Run ab_mt 42 17 ls st w = ab_Run ab_mt 42 18 ls (ab_gv (ls 0) :: st) w := E_loadr (n := 1) rfl h
theorem e_42_18 {ls : ab_L} {st : List Value} {w : ab_W} (h : ab_isI (ls 4) = true) : ab_Run ab_mt 42 18 ls st w = ab_Run ab_mt 42 20 ls (ab_gv (ls 4) :: st) w := E_loadi (n := 2) rfl h
theorem e_42_20 {ls : ab_L} {st : List Value} {w : ab_W} {v0 v1 : Value} (h1 : ab_recv ab_mt 77 [v0, v1] w.2 = true) (h8 : ab_w8 st = true) : ab_Run ab_mt 42 20 ls (v1 :: v0 :: st) w = ab_aft 77 42 20 ls st (ab_Cl 77 [v0, v1] w) := E_call2 rfl h1 h8
theorem e_42_23 {ls : ab_L} {st : List Value} {w : ab_W} (h : ab_isR (ls 0) = true) : ab_Run ab_mt 42 23 ls st w = ab_Run ab_mt 42 24 ls (ab_gv (ls 0) :: st) w := E_loadr (n := 1) rfl h
theorem e_42_24 {ls : ab_L} {st : List Value} {w : ab_W} (h : ab_isI (ls 4) = true) : ab_Run ab_mt 42 24 ls st w = ab_Run ab_mt 42 26 ls (ab_gv (ls 4) :: st) w := E_loadi (n := 2) rfl h
theorem e_42_26 {ls : ab_L} {st : List Value} {w : ab_W} : ab_Run ab_mt 42 26 ls st w = ab_Run ab_mt 42 27 ls (.int (nI 0) :: st) w := E_push (n := 1) rfl
theorem e_42_27 {ls : ab_L} {st : List Value} {w : ab_W} (h : ab_isI (ls 1) = true) : ab_Run ab_mt 42 27 ls st w = ab_Run ab_mt 42 28 ls (ab_gv (ls 1) :: st) w := E_loadi (n := 1) rfl h
theorem e_42_28 {ls : ab_L} {st : List Value} {w : ab_W} {v0 v1 v2 v3 : Value} (h1 : ab_recv ab_mt 76 [v0, v1, v2, v3] w.2 = true) (h8 : ab_w8 st = true) : ab_Run ab_mt 42 28 ls (v3 :: v2 :: v1 :: v0 :: st) w = ab_aft 76 42 28 ls st (ab_Cl 76 [v0, v1, v2, v3] w) := E_call4 rfl h1 h8
theorem e_42_31 {ls : ab_L} {st : List Value} {w : ab_W} (h : ab_isR (ls 0) = true) : ab_Run ab_mt 42 31 ls st w = ab_Run ab_mt 42 32 ls (ab_gv (ls 0) :: st) w := E_loadr (n := 1) rfl h
theorem e_42_32 {ls : ab_L} {st : List Value} {w : ab_W} (h : ab_isI (ls 4) = true) : ab_Run ab_mt 42 32 ls st w = ab_Run ab_mt 42 34 ls (ab_gv (ls 4) :: st) w := E_loadi (n := 2) rfl h
theorem e_42_34 {ls : ab_L} {st : List Value} {w : ab_W} : ab_Run ab_mt 42 34 ls st w = ab_Run ab_mt 42 35 ls (.int (nI 1) :: st) w := E_push (n := 1) rfl
theorem e_42_35 {ls : ab_L} {st : List Value} {w : ab_W} (h : ab_isI (ls 2) = true) : ab_Run ab_mt 42 35 ls st w = ab_Run ab_mt 42 36 ls (ab_gv (ls 2) :: st) w := E_loadi (n := 1) rfl h
theorem e_42_36 {ls : ab_L} {st : List Value} {w : ab_W} {v0 v1 v2 v3 : Value} (h1 : ab_recv ab_mt 76 [v0, v1, v2, v3] w.2 = true) (h8 : ab_w8 st = true) : ab_Run ab_mt 42 36 ls (v3 :: v2 :: v1 :: v0 :: st) w = ab_aft 76 42 36 ls st (ab_Cl 76 [v0, v1, v2, v3] w) := E_call4 rfl h1 h8
theorem e_42_39 {ls : ab_L} {st : List Value} {w : ab_W} (h : ab_isR (ls 0) = true) : ab_Run ab_mt 42 39 ls st w = ab_Run ab_mt 42 40 ls (ab_gv (ls 0) :: st) w := E_loadr (n := 1) rfl h
theorem e_42_40 {ls : ab_L} {st : List Value} {w : ab_W} (h : ab_isI (ls 4) = true) : ab_Run ab_mt 42 40 ls st w = ab_Run ab_mt 42 42 ls (ab_gv (ls 4) :: st) w := E_loadi (n := 2) rfl h
theorem e_42_42 {ls : ab_L} {st : List Value} {w : ab_W} : ab_Run ab_mt 42 42 ls st w = ab_Run ab_mt 42 43 ls (.int (nI 2) :: st) w := E_push (n := 1) rfl
theorem e_42_43 {ls : ab_L} {st : List Value} {w : ab_W} (h : ab_isI (ls 3) = true) : ab_Run ab_mt 42 43 ls st w = ab_Run ab_mt 42 44 ls (ab_gv (ls 3) :: st) w := E_loadi (n := 1) rfl h
theorem e_42_44 {ls : ab_L} {st : List Value} {w : ab_W} {x : Int32} : ab_Run ab_mt 42 44 ls (.int x :: st) w = if x = 0 then ab_Run ab_mt 42 51 ls st w else ab_Run ab_mt 42 47 ls st w := E_if_eq rfl
theorem e_42_47 {ls : ab_L} {st : List Value} {w : ab_W} : ab_Run ab_mt 42 47 ls st w = ab_Run ab_mt 42 48 ls (.int (nI 1) :: st) w := E_push (n := 1) rfl
theorem e_42_48 {ls : ab_L} {st : List Value} {w : ab_W} : ab_Run ab_mt 42 48 ls st w = ab_Run ab_mt 42 52 ls st w := E_goto rfl
theorem e_42_51 {ls : ab_L} {st : List Value} {w : ab_W} : ab_Run ab_mt 42 51 ls st w = ab_Run ab_mt 42 52 ls (.int (nI 0) :: st) w := E_push (n := 1) rfl
theorem e_42_52 {ls : ab_L} {st : List Value} {w : ab_W} {v0 v1 v2 v3 : Value} (h1 : ab_recv ab_mt 76 [v0, v1, v2, v3] w.2 = true) (h8 : ab_w8 st = true) : ab_Run ab_mt 42 52 ls (v3 :: v2 :: v1 :: v0 :: st) w = ab_aft 76 42 52 ls st (ab_Cl 76 [v0, v1, v2, v3] w) := E_call4 rfl h1 h8
theorem e_42_55 {ls : ab_L} {w : ab_W} : ab_Run ab_mt 42 55 ls [] w = some (.inl none, w) := E_ret0 rfl
theorem rv_42 {σ : ab_S} {x0 : Nat} {x1 : Int32} {x2 : Int32} {x3 : Int32} : ab_recv ab_mt 42 [.ref x0, .int x1, .int x2, .int x3] σ = true := rfl
theorem e_43_0 {ls : ab_L} {st : List Value} {w : ab_W} (h : ab_isL (ls 2) = true) (h2 : (ls 3).isNone = true) : ab_Run ab_mt 43 0 ls st w = ab_Run ab_mt 43 1 ls (ab_gv (ls 2) :: st) w := E_loadl (n := 1) rfl h h2
theorem e_43_1 {ls : ab_L} {st : List Value} {w : ab_W} : ab_Run ab_mt 43 1 ls st w = ab_Run ab_mt 43 2 ls (.long (lN 0) :: st) w := E_push (n := 1) rfl
theorem e_43_2 {ls : ab_L} {st : List Value} {w : ab_W} {x y : Int64} : ab_Run ab_mt 43 2 ls (.long y :: .long x :: st) w = ab_Run ab_mt 43 3 ls (.int (lg_cmp x y) :: st) w := E_lcmp rfl
theorem e_43_3 {ls : ab_L} {st : List Value} {w : ab_W} {x : Int32} : ab_Run ab_mt 43 3 ls (.int x :: st) w = if x ≤ 0 then ab_Run ab_mt 43 12 ls st w else ab_Run ab_mt 43 6 ls st w := E_if_le rfl
theorem e_43_6 {ls : ab_L} {st : List Value} {w : ab_W} (h : ab_isL (ls 0) = true) (h2 : (ls 1).isNone = true) : ab_Run ab_mt 43 6 ls st w = ab_Run ab_mt 43 7 ls (ab_gv (ls 0) :: st) w := E_loadl (n := 1) rfl h h2
theorem e_43_7 {ls : ab_L} {st : List Value} {w : ab_W} (h : ab_isL (ls 2) = true) (h2 : (ls 3).isNone = true) : ab_Run ab_mt 43 7 ls st w = ab_Run ab_mt 43 8 ls (ab_gv (ls 2) :: st) w := E_loadl (n := 1) rfl h h2
theorem e_43_8 {ls : ab_L} {st : List Value} {w : ab_W} {x y : Int64} (h : ¬ y = 0) : ab_Run ab_mt 43 8 ls (.long y :: .long x :: st) w = ab_Run ab_mt 43 9 ls (.long (x / y) :: st) w := E_ldv (f := fun x y => x / y) rfl h
theorem e_43_9 {ls : ab_L} {st : List Value} {w : ab_W} : ab_Run ab_mt 43 9 ls st w = ab_Run ab_mt 43 13 ls st w := E_goto rfl
theorem e_43_12 {ls : ab_L} {st : List Value} {w : ab_W} : ab_Run ab_mt 43 12 ls st w = ab_Run ab_mt 43 13 ls (.long (lN 0) :: st) w := E_push (n := 1) rfl
theorem e_43_13 {ls : ab_L} {w : ab_W} {x : Int64} : ab_Run ab_mt 43 13 ls [.long x] w = some (.inl (some (.long x)), w) := E_retl rfl
theorem rv_43 {σ : ab_S} {x0 : Int64} {x1 : Int64} : ab_recv ab_mt 43 [.long x0, .long x1] σ = true := rfl
theorem e_44_0 {ls : ab_L} {st : List Value} {w : ab_W} (h : ab_isL (ls 0) = true) (h2 : (ls 1).isNone = true) : ab_Run ab_mt 44 0 ls st w = ab_Run ab_mt 44 1 ls (ab_gv (ls 0) :: st) w := E_loadl (n := 1) rfl h h2
theorem e_44_1 {ls : ab_L} {st : List Value} {w : ab_W} : ab_Run ab_mt 44 1 ls st w = ab_Run ab_mt 44 4 ls (.long (lN 100) :: st) w := E_push (n := 3) rfl
theorem e_44_4 {ls : ab_L} {st : List Value} {w : ab_W} {x y : Int64} : ab_Run ab_mt 44 4 ls (.long y :: .long x :: st) w = ab_Run ab_mt 44 5 ls (.long (x * y) :: st) w := E_lb (f := fun x y => x * y) rfl
theorem e_44_5 {ls : ab_L} {st : List Value} {w : ab_W} (h : ab_isI (ls 2) = true) : ab_Run ab_mt 44 5 ls st w = ab_Run ab_mt 44 6 ls (ab_gv (ls 2) :: st) w := E_loadi (n := 1) rfl h
theorem e_44_6 {ls : ab_L} {st : List Value} {w : ab_W} {x : Int32} : ab_Run ab_mt 44 6 ls (.int x :: st) w = ab_Run ab_mt 44 7 ls (.long x.toInt64 :: st) w := E_i2l rfl
theorem e_44_7 {ls : ab_L} {st : List Value} {w : ab_W} {v0 v1 : Value} (h1 : ab_recv ab_mt 43 [v0, v1] w.2 = true) (h8 : ab_w8 st = true) : ab_Run ab_mt 44 7 ls (v1 :: v0 :: st) w = ab_aft 43 44 7 ls st (ab_Cl 43 [v0, v1] w) := E_call2 rfl h1 h8
theorem e_44_10 {ls : ab_L} {w : ab_W} {x : Int64} : ab_Run ab_mt 44 10 ls [.long x] w = some (.inl (some (.long x)), w) := E_retl rfl
theorem rv_44 {σ : ab_S} {x0 : Int64} {x1 : Int32} : ab_recv ab_mt 44 [.long x0, .int x1] σ = true := rfl
theorem e_45_0 {ls : ab_L} {st : List Value} {w : ab_W} (h : ab_isL (ls 0) = true) (h2 : (ls 1).isNone = true) : ab_Run ab_mt 45 0 ls st w = ab_Run ab_mt 45 1 ls (ab_gv (ls 0) :: st) w := E_loadl (n := 1) rfl h h2
theorem e_45_1 {ls : ab_L} {st : List Value} {w : ab_W} (h : ab_isL (ls 2) = true) (h2 : (ls 3).isNone = true) : ab_Run ab_mt 45 1 ls st w = ab_Run ab_mt 45 2 ls (ab_gv (ls 2) :: st) w := E_loadl (n := 1) rfl h h2
theorem e_45_2 {ls : ab_L} {st : List Value} {w : ab_W} {x y : Int64} : ab_Run ab_mt 45 2 ls (.long y :: .long x :: st) w = ab_Run ab_mt 45 3 ls (.int (lg_cmp x y) :: st) w := E_lcmp rfl
theorem e_45_3 {ls : ab_L} {st : List Value} {w : ab_W} {x : Int32} : ab_Run ab_mt 45 3 ls (.int x :: st) w = if 0 ≤ x then ab_Run ab_mt 45 12 ls st w else ab_Run ab_mt 45 6 ls st w := E_if_ge rfl
theorem e_45_6 {ls : ab_L} {st : List Value} {w : ab_W} (h : ab_isL (ls 2) = true) (h2 : (ls 3).isNone = true) : ab_Run ab_mt 45 6 ls st w = ab_Run ab_mt 45 7 ls (ab_gv (ls 2) :: st) w := E_loadl (n := 1) rfl h h2
theorem e_45_7 {ls : ab_L} {st : List Value} {w : ab_W} (h : ab_isL (ls 0) = true) (h2 : (ls 1).isNone = true) : ab_Run ab_mt 45 7 ls st w = ab_Run ab_mt 45 8 ls (ab_gv (ls 0) :: st) w := E_loadl (n := 1) rfl h h2
theorem e_45_8 {ls : ab_L} {st : List Value} {w : ab_W} {x y : Int64} : ab_Run ab_mt 45 8 ls (.long y :: .long x :: st) w = ab_Run ab_mt 45 9 ls (.long (x - y) :: st) w := E_lb (f := fun x y => x - y) rfl
theorem e_45_9 {ls : ab_L} {st : List Value} {w : ab_W} : ab_Run ab_mt 45 9 ls st w = ab_Run ab_mt 45 15 ls st w := E_goto rfl
theorem e_45_12 {ls : ab_L} {st : List Value} {w : ab_W} (h : ab_isL (ls 0) = true) (h2 : (ls 1).isNone = true) : ab_Run ab_mt 45 12 ls st w = ab_Run ab_mt 45 13 ls (ab_gv (ls 0) :: st) w := E_loadl (n := 1) rfl h h2
theorem e_45_13 {ls : ab_L} {st : List Value} {w : ab_W} (h : ab_isL (ls 2) = true) (h2 : (ls 3).isNone = true) : ab_Run ab_mt 45 13 ls st w = ab_Run ab_mt 45 14 ls (ab_gv (ls 2) :: st) w := E_loadl (n := 1) rfl h h2
theorem e_45_14 {ls : ab_L} {st : List Value} {w : ab_W} {x y : Int64} : ab_Run ab_mt 45 14 ls (.long y :: .long x :: st) w = ab_Run ab_mt 45 15 ls (.long (x - y) :: st) w := E_lb (f := fun x y => x - y) rfl
theorem e_45_15 {ls : ab_L} {w : ab_W} {x : Int64} : ab_Run ab_mt 45 15 ls [.long x] w = some (.inl (some (.long x)), w) := E_retl rfl
theorem rv_45 {σ : ab_S} {x0 : Int64} {x1 : Int64} : ab_recv ab_mt 45 [.long x0, .long x1] σ = true := rfl
theorem e_46_0 {ls : ab_L} {st : List Value} {w : ab_W} (h : ab_isD (ls 0) = true) (h2 : (ls 1).isNone = true) : ab_Run ab_mt 46 0 ls st w = ab_Run ab_mt 46 1 ls (ab_gv (ls 0) :: st) w := E_loadd (n := 1) rfl h h2
theorem e_46_1 {ls : ab_L} {st : List Value} {w : ab_W} : ab_Run ab_mt 46 1 ls st w = ab_Run ab_mt 46 2 ls (.double FP.dconst0 :: st) w := E_push (n := 1) rfl
theorem e_46_2 {ls : ab_L} {st : List Value} {w : ab_W} {x y : UInt64} : ab_Run ab_mt 46 2 ls (.double y :: .double x :: st) w = ab_Run ab_mt 46 3 ls (.int (Op.cmpValue (FP.dcmp x y) .g) :: st) w := E_dcmp rfl
theorem e_46_3 {ls : ab_L} {st : List Value} {w : ab_W} {x : Int32} : ab_Run ab_mt 46 3 ls (.int x :: st) w = if 0 < x then ab_Run ab_mt 46 8 ls st w else ab_Run ab_mt 46 6 ls st w := E_if_gt rfl
theorem e_46_6 {ls : ab_L} {st : List Value} {w : ab_W} : ab_Run ab_mt 46 6 ls st w = ab_Run ab_mt 46 7 ls (.long (lN 0) :: st) w := E_push (n := 1) rfl
theorem e_46_7 {ls : ab_L} {w : ab_W} {x : Int64} : ab_Run ab_mt 46 7 ls [.long x] w = some (.inl (some (.long x)), w) := E_retl rfl
theorem e_46_8 {ls : ab_L} {st : List Value} {w : ab_W} (h : ab_isD (ls 0) = true) (h2 : (ls 1).isNone = true) : ab_Run ab_mt 46 8 ls st w = ab_Run ab_mt 46 9 ls (ab_gv (ls 0) :: st) w := E_loadd (n := 1) rfl h h2
theorem e_46_9 {ls : ab_L} {st : List Value} {w : ab_W} {x : UInt64} : ab_Run ab_mt 46 9 ls (.double x :: st) w = ab_Run ab_mt 46 10 (ab_l2 ls 2 (.double x)) st w := E_stord (n := 1) rfl
theorem e_46_10 {ls : ab_L} {st : List Value} {w : ab_W} : ab_Run ab_mt 46 10 ls st w = ab_Run ab_mt 46 13 ls (.long (lN 1023) :: st) w := E_push (n := 3) rfl
theorem e_46_13 {ls : ab_L} {st : List Value} {w : ab_W} {x : Int64} : ab_Run ab_mt 46 13 ls (.long x :: st) w = ab_Run ab_mt 46 15 (ab_l2 ls 4 (.long x)) st w := E_storl (n := 2) rfl
theorem e_46_15 {ls : ab_L} {st : List Value} {w : ab_W} (h : ab_isD (ls 2) = true) (h2 : (ls 3).isNone = true) : ab_Run ab_mt 46 15 ls st w = ab_Run ab_mt 46 16 ls (ab_gv (ls 2) :: st) w := E_loadd (n := 1) rfl h h2
theorem e_46_16 {ls : ab_L} {st : List Value} {w : ab_W} : ab_Run ab_mt 46 16 ls st w = ab_Run ab_mt 46 19 ls (.double 4611686018427387904 :: st) w := E_push (n := 3) rfl
theorem e_46_19 {ls : ab_L} {st : List Value} {w : ab_W} {x y : UInt64} : ab_Run ab_mt 46 19 ls (.double y :: .double x :: st) w = ab_Run ab_mt 46 20 ls (.int (Op.cmpValue (FP.dcmp x y) .l) :: st) w := E_dcmp rfl
theorem e_46_20 {ls : ab_L} {st : List Value} {w : ab_W} {x : Int32} : ab_Run ab_mt 46 20 ls (.int x :: st) w = if x < 0 then ab_Run ab_mt 46 47 ls st w else ab_Run ab_mt 46 23 ls st w := E_if_lt rfl
theorem e_46_23 {ls : ab_L} {st : List Value} {w : ab_W} (h : ab_isL (ls 4) = true) (h2 : (ls 5).isNone = true) : ab_Run ab_mt 46 23 ls st w = ab_Run ab_mt 46 25 ls (ab_gv (ls 4) :: st) w := E_loadl (n := 2) rfl h h2
theorem e_46_25 {ls : ab_L} {st : List Value} {w : ab_W} : ab_Run ab_mt 46 25 ls st w = ab_Run ab_mt 46 28 ls (.long (lN 2046) :: st) w := E_push (n := 3) rfl
theorem e_46_28 {ls : ab_L} {st : List Value} {w : ab_W} {x y : Int64} : ab_Run ab_mt 46 28 ls (.long y :: .long x :: st) w = ab_Run ab_mt 46 29 ls (.int (lg_cmp x y) :: st) w := E_lcmp rfl
theorem e_46_29 {ls : ab_L} {st : List Value} {w : ab_W} {x : Int32} : ab_Run ab_mt 46 29 ls (.int x :: st) w = if 0 ≤ x then ab_Run ab_mt 46 47 ls st w else ab_Run ab_mt 46 32 ls st w := E_if_ge rfl
theorem e_46_32 {ls : ab_L} {st : List Value} {w : ab_W} (h : ab_isD (ls 2) = true) (h2 : (ls 3).isNone = true) : ab_Run ab_mt 46 32 ls st w = ab_Run ab_mt 46 33 ls (ab_gv (ls 2) :: st) w := E_loadd (n := 1) rfl h h2
theorem e_46_33 {ls : ab_L} {st : List Value} {w : ab_W} : ab_Run ab_mt 46 33 ls st w = ab_Run ab_mt 46 36 ls (.double 4611686018427387904 :: st) w := E_push (n := 3) rfl
theorem e_46_36 {ls : ab_L} {st : List Value} {w : ab_W} {x y : UInt64} (h : ab_n64 (FP.ddiv x y) = true) : ab_Run ab_mt 46 36 ls (.double y :: .double x :: st) w = ab_Run ab_mt 46 37 ls (.double (FP.ddiv x y) :: st) w := E_db rfl h
theorem e_46_37 {ls : ab_L} {st : List Value} {w : ab_W} {x : UInt64} : ab_Run ab_mt 46 37 ls (.double x :: st) w = ab_Run ab_mt 46 38 (ab_l2 ls 2 (.double x)) st w := E_stord (n := 1) rfl
theorem e_46_38 {ls : ab_L} {st : List Value} {w : ab_W} (h : ab_isL (ls 4) = true) (h2 : (ls 5).isNone = true) : ab_Run ab_mt 46 38 ls st w = ab_Run ab_mt 46 40 ls (ab_gv (ls 4) :: st) w := E_loadl (n := 2) rfl h h2
theorem e_46_40 {ls : ab_L} {st : List Value} {w : ab_W} : ab_Run ab_mt 46 40 ls st w = ab_Run ab_mt 46 41 ls (.long (lN 1) :: st) w := E_push (n := 1) rfl
theorem e_46_41 {ls : ab_L} {st : List Value} {w : ab_W} {x y : Int64} : ab_Run ab_mt 46 41 ls (.long y :: .long x :: st) w = ab_Run ab_mt 46 42 ls (.long (x + y) :: st) w := E_lb (f := fun x y => x + y) rfl
theorem e_46_42 {ls : ab_L} {st : List Value} {w : ab_W} {x : Int64} : ab_Run ab_mt 46 42 ls (.long x :: st) w = ab_Run ab_mt 46 44 (ab_l2 ls 4 (.long x)) st w := E_storl (n := 2) rfl
theorem e_46_44 {ls : ab_L} {st : List Value} {w : ab_W} : ab_Run ab_mt 46 44 ls st w = ab_Run ab_mt 46 15 ls st w := E_goto rfl
theorem e_46_47 {ls : ab_L} {st : List Value} {w : ab_W} (h : ab_isD (ls 2) = true) (h2 : (ls 3).isNone = true) : ab_Run ab_mt 46 47 ls st w = ab_Run ab_mt 46 48 ls (ab_gv (ls 2) :: st) w := E_loadd (n := 1) rfl h h2
theorem e_46_48 {ls : ab_L} {st : List Value} {w : ab_W} : ab_Run ab_mt 46 48 ls st w = ab_Run ab_mt 46 49 ls (.double FP.dconst1 :: st) w := E_push (n := 1) rfl
theorem e_46_49 {ls : ab_L} {st : List Value} {w : ab_W} {x y : UInt64} : ab_Run ab_mt 46 49 ls (.double y :: .double x :: st) w = ab_Run ab_mt 46 50 ls (.int (Op.cmpValue (FP.dcmp x y) .g) :: st) w := E_dcmp rfl
theorem e_46_50 {ls : ab_L} {st : List Value} {w : ab_W} {x : Int32} : ab_Run ab_mt 46 50 ls (.int x :: st) w = if 0 ≤ x then ab_Run ab_mt 46 75 ls st w else ab_Run ab_mt 46 53 ls st w := E_if_ge rfl
theorem e_46_53 {ls : ab_L} {st : List Value} {w : ab_W} (h : ab_isL (ls 4) = true) (h2 : (ls 5).isNone = true) : ab_Run ab_mt 46 53 ls st w = ab_Run ab_mt 46 55 ls (ab_gv (ls 4) :: st) w := E_loadl (n := 2) rfl h h2
theorem e_46_55 {ls : ab_L} {st : List Value} {w : ab_W} : ab_Run ab_mt 46 55 ls st w = ab_Run ab_mt 46 56 ls (.long (lN 1) :: st) w := E_push (n := 1) rfl
theorem e_46_56 {ls : ab_L} {st : List Value} {w : ab_W} {x y : Int64} : ab_Run ab_mt 46 56 ls (.long y :: .long x :: st) w = ab_Run ab_mt 46 57 ls (.int (lg_cmp x y) :: st) w := E_lcmp rfl
theorem e_46_57 {ls : ab_L} {st : List Value} {w : ab_W} {x : Int32} : ab_Run ab_mt 46 57 ls (.int x :: st) w = if x ≤ 0 then ab_Run ab_mt 46 75 ls st w else ab_Run ab_mt 46 60 ls st w := E_if_le rfl
theorem e_46_60 {ls : ab_L} {st : List Value} {w : ab_W} (h : ab_isD (ls 2) = true) (h2 : (ls 3).isNone = true) : ab_Run ab_mt 46 60 ls st w = ab_Run ab_mt 46 61 ls (ab_gv (ls 2) :: st) w := E_loadd (n := 1) rfl h h2
theorem e_46_61 {ls : ab_L} {st : List Value} {w : ab_W} : ab_Run ab_mt 46 61 ls st w = ab_Run ab_mt 46 64 ls (.double 4611686018427387904 :: st) w := E_push (n := 3) rfl
theorem e_46_64 {ls : ab_L} {st : List Value} {w : ab_W} {x y : UInt64} (h : ab_n64 (FP.dmul x y) = true) : ab_Run ab_mt 46 64 ls (.double y :: .double x :: st) w = ab_Run ab_mt 46 65 ls (.double (FP.dmul x y) :: st) w := E_db rfl h
theorem e_46_65 {ls : ab_L} {st : List Value} {w : ab_W} {x : UInt64} : ab_Run ab_mt 46 65 ls (.double x :: st) w = ab_Run ab_mt 46 66 (ab_l2 ls 2 (.double x)) st w := E_stord (n := 1) rfl
theorem e_46_66 {ls : ab_L} {st : List Value} {w : ab_W} (h : ab_isL (ls 4) = true) (h2 : (ls 5).isNone = true) : ab_Run ab_mt 46 66 ls st w = ab_Run ab_mt 46 68 ls (ab_gv (ls 4) :: st) w := E_loadl (n := 2) rfl h h2
theorem e_46_68 {ls : ab_L} {st : List Value} {w : ab_W} : ab_Run ab_mt 46 68 ls st w = ab_Run ab_mt 46 69 ls (.long (lN 1) :: st) w := E_push (n := 1) rfl
theorem e_46_69 {ls : ab_L} {st : List Value} {w : ab_W} {x y : Int64} : ab_Run ab_mt 46 69 ls (.long y :: .long x :: st) w = ab_Run ab_mt 46 70 ls (.long (x - y) :: st) w := E_lb (f := fun x y => x - y) rfl
theorem e_46_70 {ls : ab_L} {st : List Value} {w : ab_W} {x : Int64} : ab_Run ab_mt 46 70 ls (.long x :: st) w = ab_Run ab_mt 46 72 (ab_l2 ls 4 (.long x)) st w := E_storl (n := 2) rfl
theorem e_46_72 {ls : ab_L} {st : List Value} {w : ab_W} : ab_Run ab_mt 46 72 ls st w = ab_Run ab_mt 46 47 ls st w := E_goto rfl
theorem e_46_75 {ls : ab_L} {st : List Value} {w : ab_W} (h : ab_isL (ls 4) = true) (h2 : (ls 5).isNone = true) : ab_Run ab_mt 46 75 ls st w = ab_Run ab_mt 46 77 ls (ab_gv (ls 4) :: st) w := E_loadl (n := 2) rfl h h2
theorem e_46_77 {ls : ab_L} {st : List Value} {w : ab_W} : ab_Run ab_mt 46 77 ls st w = ab_Run ab_mt 46 79 ls (.int (nI 52) :: st) w := E_push (n := 2) rfl
theorem e_46_79 {ls : ab_L} {st : List Value} {w : ab_W} {x : Int64} {y : Int32} : ab_Run ab_mt 46 79 ls (.int y :: .long x :: st) w = ab_Run ab_mt 46 80 ls (.long (x <<< (y.toInt64 &&& 63)) :: st) w := E_lsh rfl
theorem e_46_80 {ls : ab_L} {st : List Value} {w : ab_W} (h : ab_isD (ls 2) = true) (h2 : (ls 3).isNone = true) : ab_Run ab_mt 46 80 ls st w = ab_Run ab_mt 46 81 ls (ab_gv (ls 2) :: st) w := E_loadd (n := 1) rfl h h2
theorem e_46_81 {ls : ab_L} {st : List Value} {w : ab_W} : ab_Run ab_mt 46 81 ls st w = ab_Run ab_mt 46 82 ls (.double FP.dconst1 :: st) w := E_push (n := 1) rfl
theorem e_46_82 {ls : ab_L} {st : List Value} {w : ab_W} {x y : UInt64} (h : ab_n64 (FP.dsub x y) = true) : ab_Run ab_mt 46 82 ls (.double y :: .double x :: st) w = ab_Run ab_mt 46 83 ls (.double (FP.dsub x y) :: st) w := E_db rfl h
theorem e_46_83 {ls : ab_L} {st : List Value} {w : ab_W} : ab_Run ab_mt 46 83 ls st w = ab_Run ab_mt 46 86 ls (.double 4841369599423283200 :: st) w := E_push (n := 3) rfl
theorem e_46_86 {ls : ab_L} {st : List Value} {w : ab_W} {x y : UInt64} (h : ab_n64 (FP.dmul x y) = true) : ab_Run ab_mt 46 86 ls (.double y :: .double x :: st) w = ab_Run ab_mt 46 87 ls (.double (FP.dmul x y) :: st) w := E_db rfl h
theorem e_46_87 {ls : ab_L} {st : List Value} {w : ab_W} {x : UInt64} : ab_Run ab_mt 46 87 ls (.double x :: st) w = ab_Run ab_mt 46 88 ls (.long (FP.d2l x) :: st) w := E_d2l rfl
theorem e_46_88 {ls : ab_L} {st : List Value} {w : ab_W} {x y : Int64} : ab_Run ab_mt 46 88 ls (.long y :: .long x :: st) w = ab_Run ab_mt 46 89 ls (.long (x + y) :: st) w := E_lb (f := fun x y => x + y) rfl
theorem e_46_89 {ls : ab_L} {w : ab_W} {x : Int64} : ab_Run ab_mt 46 89 ls [.long x] w = some (.inl (some (.long x)), w) := E_retl rfl
theorem rv_46 {σ : ab_S} {x0 : UInt64} : ab_recv ab_mt 46 [.double x0] σ = true := rfl
theorem e_47_0 {ls : ab_L} {st : List Value} {w : ab_W} (h : ab_isR (ls 0) = true) : ab_Run ab_mt 47 0 ls st w = ab_Run ab_mt 47 1 ls (ab_gv (ls 0) :: st) w := E_loadr (n := 1) rfl h
theorem e_47_1 {ls : ab_L} {st : List Value} {w : ab_W} {a : Nat} (h8 : ab_w8 st = true) : ab_Run ab_mt 47 1 ls (.ref a :: st) w = ab_Run ab_mt 47 4 ls st w := E_oini rfl h8
theorem e_47_4 {ls : ab_L} {st : List Value} {w : ab_W} (h : ab_isR (ls 0) = true) : ab_Run ab_mt 47 4 ls st w = ab_Run ab_mt 47 5 ls (ab_gv (ls 0) :: st) w := E_loadr (n := 1) rfl h
theorem e_47_5 {ls : ab_L} {st : List Value} {w : ab_W} (h : w.1.1 = true) : ab_Run ab_mt 47 5 ls st w = ab_Run ab_mt 47 8 ls (.ref w.1.2.1 :: st) (ab_mk w.1 w.2 (ab_ob 2 [.null, .null, .null]) 3) := E_new (n := 3) (x := ab_ob 2 [.null, .null, .null]) (sz := 3) (rest := st) rfl rfl h
theorem e_47_8 {ls : ab_L} {st : List Value} {w : ab_W} {x : Nat} : ab_Run ab_mt 47 8 ls (.ref x :: st) w = ab_Run ab_mt 47 9 ls (.ref x :: .ref x :: st) w := E_dup_r rfl
theorem e_47_9 {ls : ab_L} {st : List Value} {w : ab_W} {v0 : Value} (h1 : ab_recv ab_mt 71 [v0] w.2 = true) (h8 : ab_w8 st = true) : ab_Run ab_mt 47 9 ls (v0 :: st) w = ab_aft 71 47 9 ls st (ab_Cl 71 [v0] w) := E_call1 rfl h1 h8
theorem e_47_12 {ls : ab_L} {st : List Value} {w : ab_W} {a : Nat} {x : Nat} (h : ab_isF 1 0 (w.2 a) = true) : ab_Run ab_mt 47 12 ls (.ref x :: .ref a :: st) w = ab_Run ab_mt 47 15 ls st (w.1, ab_up w.2 a (ab_sf 0 (.ref x) (w.2 a))) := E_put rfl h rfl
theorem e_47_15 {ls : ab_L} {st : List Value} {w : ab_W} (h : ab_isR (ls 0) = true) : ab_Run ab_mt 47 15 ls st w = ab_Run ab_mt 47 16 ls (ab_gv (ls 0) :: st) w := E_loadr (n := 1) rfl h
theorem e_47_16 {ls : ab_L} {st : List Value} {w : ab_W} : ab_Run ab_mt 47 16 ls st w = ab_Run ab_mt 47 18 ls (.int (nI 24) :: st) w := E_push (n := 2) rfl
theorem e_47_18 {ls : ab_L} {st : List Value} {w : ab_W} {n : Int32} (h : w.1.1 = true) (hn : ¬ (n < 0 ∨ 60000 < n.toNatClampNeg)) : ab_Run ab_mt 47 18 ls (.int n :: st) w = ab_Run ab_mt 47 20 ls (.ref w.1.2.1 :: st) (ab_mk w.1 w.2 (ab_ia n.toNatClampNeg (fun _ => 0)) n.toNatClampNeg) := E_new (n := 2) (x := ab_ia n.toNatClampNeg (fun _ => 0)) (sz := n.toNatClampNeg) (rest := st) rfl (if_neg hn) h
theorem e_47_20 {ls : ab_L} {st : List Value} {w : ab_W} {a : Nat} {x : Nat} (h : ab_isF 1 1 (w.2 a) = true) : ab_Run ab_mt 47 20 ls (.ref x :: .ref a :: st) w = ab_Run ab_mt 47 23 ls st (w.1, ab_up w.2 a (ab_sf 1 (.ref x) (w.2 a))) := E_put rfl h rfl
theorem e_47_23 {ls : ab_L} {st : List Value} {w : ab_W} (h : ab_isR (ls 0) = true) : ab_Run ab_mt 47 23 ls st w = ab_Run ab_mt 47 24 ls (ab_gv (ls 0) :: st) w := E_loadr (n := 1) rfl h
theorem e_47_24 {ls : ab_L} {st : List Value} {w : ab_W} : ab_Run ab_mt 47 24 ls st w = ab_Run ab_mt 47 27 ls (.int (nI 288) :: st) w := E_push (n := 3) rfl
theorem e_47_27 {ls : ab_L} {st : List Value} {w : ab_W} {n : Int32} (h : w.1.1 = true) (hn : ¬ (n < 0 ∨ 60000 < n.toNatClampNeg)) : ab_Run ab_mt 47 27 ls (.int n :: st) w = ab_Run ab_mt 47 29 ls (.ref w.1.2.1 :: st) (ab_mk w.1 w.2 (ab_ia n.toNatClampNeg (fun _ => 0)) n.toNatClampNeg) := E_new (n := 2) (x := ab_ia n.toNatClampNeg (fun _ => 0)) (sz := n.toNatClampNeg) (rest := st) rfl (if_neg hn) h
theorem e_47_29 {ls : ab_L} {st : List Value} {w : ab_W} {a : Nat} {x : Nat} (h : ab_isF 1 2 (w.2 a) = true) : ab_Run ab_mt 47 29 ls (.ref x :: .ref a :: st) w = ab_Run ab_mt 47 32 ls st (w.1, ab_up w.2 a (ab_sf 2 (.ref x) (w.2 a))) := E_put rfl h rfl
theorem e_47_32 {ls : ab_L} {st : List Value} {w : ab_W} (h : ab_isR (ls 0) = true) : ab_Run ab_mt 47 32 ls st w = ab_Run ab_mt 47 33 ls (ab_gv (ls 0) :: st) w := E_loadr (n := 1) rfl h
theorem e_47_33 {ls : ab_L} {st : List Value} {w : ab_W} : ab_Run ab_mt 47 33 ls st w = ab_Run ab_mt 47 36 ls (.int (nI 288) :: st) w := E_push (n := 3) rfl
theorem e_47_36 {ls : ab_L} {st : List Value} {w : ab_W} {n : Int32} (h : w.1.1 = true) (hn : ¬ (n < 0 ∨ 60000 < n.toNatClampNeg)) : ab_Run ab_mt 47 36 ls (.int n :: st) w = ab_Run ab_mt 47 38 ls (.ref w.1.2.1 :: st) (ab_mk w.1 w.2 (ab_ia n.toNatClampNeg (fun _ => 0)) n.toNatClampNeg) := E_new (n := 2) (x := ab_ia n.toNatClampNeg (fun _ => 0)) (sz := n.toNatClampNeg) (rest := st) rfl (if_neg hn) h
theorem e_47_38 {ls : ab_L} {st : List Value} {w : ab_W} {a : Nat} {x : Nat} (h : ab_isF 1 3 (w.2 a) = true) : ab_Run ab_mt 47 38 ls (.ref x :: .ref a :: st) w = ab_Run ab_mt 47 41 ls st (w.1, ab_up w.2 a (ab_sf 3 (.ref x) (w.2 a))) := E_put rfl h rfl
theorem e_47_41 {ls : ab_L} {st : List Value} {w : ab_W} (h : ab_isR (ls 0) = true) : ab_Run ab_mt 47 41 ls st w = ab_Run ab_mt 47 42 ls (ab_gv (ls 0) :: st) w := E_loadr (n := 1) rfl h
theorem e_47_42 {ls : ab_L} {st : List Value} {w : ab_W} : ab_Run ab_mt 47 42 ls st w = ab_Run ab_mt 47 45 ls (.int (nI 288) :: st) w := E_push (n := 3) rfl
theorem e_47_45 {ls : ab_L} {st : List Value} {w : ab_W} {n : Int32} (h : w.1.1 = true) (hn : ¬ (n < 0 ∨ 60000 < n.toNatClampNeg)) : ab_Run ab_mt 47 45 ls (.int n :: st) w = ab_Run ab_mt 47 47 ls (.ref w.1.2.1 :: st) (ab_mk w.1 w.2 (ab_la n.toNatClampNeg (fun _ => 0)) n.toNatClampNeg) := E_new (n := 2) (x := ab_la n.toNatClampNeg (fun _ => 0)) (sz := n.toNatClampNeg) (rest := st) rfl (if_neg hn) h
theorem e_47_47 {ls : ab_L} {st : List Value} {w : ab_W} {a : Nat} {x : Nat} (h : ab_isF 1 4 (w.2 a) = true) : ab_Run ab_mt 47 47 ls (.ref x :: .ref a :: st) w = ab_Run ab_mt 47 50 ls st (w.1, ab_up w.2 a (ab_sf 4 (.ref x) (w.2 a))) := E_put rfl h rfl
theorem e_47_50 {ls : ab_L} {st : List Value} {w : ab_W} (h : ab_isR (ls 0) = true) : ab_Run ab_mt 47 50 ls st w = ab_Run ab_mt 47 51 ls (ab_gv (ls 0) :: st) w := E_loadr (n := 1) rfl h
theorem e_47_51 {ls : ab_L} {st : List Value} {w : ab_W} : ab_Run ab_mt 47 51 ls st w = ab_Run ab_mt 47 54 ls (.int (nI 288) :: st) w := E_push (n := 3) rfl
theorem e_47_54 {ls : ab_L} {st : List Value} {w : ab_W} {n : Int32} (h : w.1.1 = true) (hn : ¬ (n < 0 ∨ 60000 < n.toNatClampNeg)) : ab_Run ab_mt 47 54 ls (.int n :: st) w = ab_Run ab_mt 47 56 ls (.ref w.1.2.1 :: st) (ab_mk w.1 w.2 (ab_la n.toNatClampNeg (fun _ => 0)) n.toNatClampNeg) := E_new (n := 2) (x := ab_la n.toNatClampNeg (fun _ => 0)) (sz := n.toNatClampNeg) (rest := st) rfl (if_neg hn) h
theorem e_47_56 {ls : ab_L} {st : List Value} {w : ab_W} {a : Nat} {x : Nat} (h : ab_isF 1 5 (w.2 a) = true) : ab_Run ab_mt 47 56 ls (.ref x :: .ref a :: st) w = ab_Run ab_mt 47 59 ls st (w.1, ab_up w.2 a (ab_sf 5 (.ref x) (w.2 a))) := E_put rfl h rfl
theorem e_47_59 {ls : ab_L} {w : ab_W} : ab_Run ab_mt 47 59 ls [] w = some (.inl none, w) := E_ret0 rfl
theorem rv_47 {σ : ab_S} {t : Nat} : ab_recv ab_mt 47 [.ref t] σ = ab_isO 1 (σ t) := rfl
theorem e_48_0 {ls : ab_L} {st : List Value} {w : ab_W} (h : ab_isR (ls 0) = true) : ab_Run ab_mt 48 0 ls st w = ab_Run ab_mt 48 1 ls (ab_gv (ls 0) :: st) w := E_loadr (n := 1) rfl h
theorem e_48_1 {ls : ab_L} {st : List Value} {w : ab_W} {v0 : Value} (h1 : ab_recv ab_mt 49 [v0] w.2 = true) (h8 : ab_w8 st = true) : ab_Run ab_mt 48 1 ls (v0 :: st) w = ab_aft 49 48 1 ls st (ab_Cl 49 [v0] w) := E_call1 rfl h1 h8
theorem e_48_4 {ls : ab_L} {st : List Value} {w : ab_W} (h : ab_isR (ls 0) = true) : ab_Run ab_mt 48 4 ls st w = ab_Run ab_mt 48 5 ls (ab_gv (ls 0) :: st) w := E_loadr (n := 1) rfl h
theorem e_48_5 {ls : ab_L} {st : List Value} {w : ab_W} {v0 : Value} (h1 : ab_recv ab_mt 50 [v0] w.2 = true) (h8 : ab_w8 st = true) : ab_Run ab_mt 48 5 ls (v0 :: st) w = ab_aft 50 48 5 ls st (ab_Cl 50 [v0] w) := E_call1 rfl h1 h8
theorem e_48_8 {ls : ab_L} {st : List Value} {w : ab_W} (h : ab_isR (ls 0) = true) : ab_Run ab_mt 48 8 ls st w = ab_Run ab_mt 48 9 ls (ab_gv (ls 0) :: st) w := E_loadr (n := 1) rfl h
theorem e_48_9 {ls : ab_L} {st : List Value} {w : ab_W} {v0 : Value} (h1 : ab_recv ab_mt 52 [v0] w.2 = true) (h8 : ab_w8 st = true) : ab_Run ab_mt 48 9 ls (v0 :: st) w = ab_aft 52 48 9 ls st (ab_Cl 52 [v0] w) := E_call1 rfl h1 h8
theorem e_48_12 {ls : ab_L} {st : List Value} {w : ab_W} (h : ab_isR (ls 0) = true) : ab_Run ab_mt 48 12 ls st w = ab_Run ab_mt 48 13 ls (ab_gv (ls 0) :: st) w := E_loadr (n := 1) rfl h
theorem e_48_13 {ls : ab_L} {st : List Value} {w : ab_W} {a : Nat} (h : ab_isF 1 0 (w.2 a) = true) : ab_Run ab_mt 48 13 ls (.ref a :: st) w = ab_Run ab_mt 48 16 ls (ab_fv 0 (w.2 a) :: st) w := E_get rfl h
theorem e_48_16 {ls : ab_L} {st : List Value} {w : ab_W} {a : Nat} (h : ab_isF 2 2 (w.2 a) = true) : ab_Run ab_mt 48 16 ls (.ref a :: st) w = ab_Run ab_mt 48 19 ls (ab_fv 2 (w.2 a) :: st) w := E_get rfl h
theorem e_48_19 {ls : ab_L} {st : List Value} {w : ab_W} {a : Nat} (h : ab_isF 3 3 (w.2 a) = true) : ab_Run ab_mt 48 19 ls (.ref a :: st) w = ab_Run ab_mt 48 22 ls (ab_fv 3 (w.2 a) :: st) w := E_get rfl h
theorem e_48_22 {ls : ab_L} {st : List Value} {w : ab_W} : ab_Run ab_mt 48 22 ls st w = ab_Run ab_mt 48 23 ls (.int (nI 1) :: st) w := E_push (n := 1) rfl
theorem e_48_23 {ls : ab_L} {st : List Value} {w : ab_W} {x y : Int32} : ab_Run ab_mt 48 23 ls (.int y :: .int x :: st) w = ab_Run ab_mt 48 24 ls (.int (x - y) :: st) w := E_ib (f := fun x y => x - y) rfl
theorem e_48_24 {ls : ab_L} {st : List Value} {w : ab_W} {x : Int32} : ab_Run ab_mt 48 24 ls (.int x :: st) w = ab_Run ab_mt 48 25 (ab_l1 ls 1 (.int x)) st w := E_stori (n := 1) rfl
theorem e_48_25 {ls : ab_L} {st : List Value} {w : ab_W} (h : ab_isI (ls 1) = true) : ab_Run ab_mt 48 25 ls st w = ab_Run ab_mt 48 26 ls (ab_gv (ls 1) :: st) w := E_loadi (n := 1) rfl h
theorem e_48_26 {ls : ab_L} {st : List Value} {w : ab_W} {x : Int32} : ab_Run ab_mt 48 26 ls (.int x :: st) w = if x < 0 then ab_Run ab_mt 48 65 ls st w else ab_Run ab_mt 48 29 ls st w := E_if_lt rfl
theorem e_48_29 {ls : ab_L} {st : List Value} {w : ab_W} (h : ab_isR (ls 0) = true) : ab_Run ab_mt 48 29 ls st w = ab_Run ab_mt 48 30 ls (ab_gv (ls 0) :: st) w := E_loadr (n := 1) rfl h
theorem e_48_30 {ls : ab_L} {st : List Value} {w : ab_W} {a : Nat} (h : ab_isF 1 0 (w.2 a) = true) : ab_Run ab_mt 48 30 ls (.ref a :: st) w = ab_Run ab_mt 48 33 ls (ab_fv 0 (w.2 a) :: st) w := E_get rfl h
theorem e_48_33 {ls : ab_L} {st : List Value} {w : ab_W} {a : Nat} (h : ab_isF 2 2 (w.2 a) = true) : ab_Run ab_mt 48 33 ls (.ref a :: st) w = ab_Run ab_mt 48 36 ls (ab_fv 2 (w.2 a) :: st) w := E_get rfl h
theorem e_48_36 {ls : ab_L} {st : List Value} {w : ab_W} (h : ab_isI (ls 1) = true) : ab_Run ab_mt 48 36 ls st w = ab_Run ab_mt 48 37 ls (ab_gv (ls 1) :: st) w := E_loadi (n := 1) rfl h
theorem e_48_37 {ls : ab_L} {st : List Value} {w : ab_W} : ab_Run ab_mt 48 37 ls st w = ab_Run ab_mt 48 38 ls (.int (nI 0) :: st) w := E_push (n := 1) rfl
theorem e_48_38 {ls : ab_L} {st : List Value} {w : ab_W} {v0 v1 v2 : Value} (h1 : ab_recv ab_mt 75 [v0, v1, v2] w.2 = true) (h8 : ab_w8 st = true) : ab_Run ab_mt 48 38 ls (v2 :: v1 :: v0 :: st) w = ab_aft 75 48 38 ls st (ab_Cl 75 [v0, v1, v2] w) := E_call3 rfl h1 h8
theorem e_48_41 {ls : ab_L} {st : List Value} {w : ab_W} (h : ab_isR (ls 0) = true) : ab_Run ab_mt 48 41 ls st w = ab_Run ab_mt 48 42 ls (ab_gv (ls 0) :: st) w := E_loadr (n := 1) rfl h
theorem e_48_42 {ls : ab_L} {st : List Value} {w : ab_W} {a : Nat} (h : ab_isF 1 6 (w.2 a) = true) : ab_Run ab_mt 48 42 ls (.ref a :: st) w = ab_Run ab_mt 48 45 ls (ab_fv 6 (w.2 a) :: st) w := E_get rfl h
theorem e_48_45 {ls : ab_L} {st : List Value} {w : ab_W} {x y : Int32} : ab_Run ab_mt 48 45 ls (.int y :: .int x :: st) w = if x < y then ab_Run ab_mt 48 59 ls st w else ab_Run ab_mt 48 48 ls st w := E_ic_lt rfl
theorem e_48_48 {ls : ab_L} {st : List Value} {w : ab_W} (h : ab_isR (ls 0) = true) : ab_Run ab_mt 48 48 ls st w = ab_Run ab_mt 48 49 ls (ab_gv (ls 0) :: st) w := E_loadr (n := 1) rfl h
theorem e_48_49 {ls : ab_L} {st : List Value} {w : ab_W} {a : Nat} (h : ab_isF 1 0 (w.2 a) = true) : ab_Run ab_mt 48 49 ls (.ref a :: st) w = ab_Run ab_mt 48 52 ls (ab_fv 0 (w.2 a) :: st) w := E_get rfl h
theorem e_48_52 {ls : ab_L} {st : List Value} {w : ab_W} {a : Nat} (h : ab_isF 2 2 (w.2 a) = true) : ab_Run ab_mt 48 52 ls (.ref a :: st) w = ab_Run ab_mt 48 55 ls (ab_fv 2 (w.2 a) :: st) w := E_get rfl h
theorem e_48_55 {ls : ab_L} {st : List Value} {w : ab_W} (h : ab_isI (ls 1) = true) : ab_Run ab_mt 48 55 ls st w = ab_Run ab_mt 48 56 ls (ab_gv (ls 1) :: st) w := E_loadi (n := 1) rfl h
theorem e_48_56 {ls : ab_L} {st : List Value} {w : ab_W} {v0 v1 : Value} (h1 : ab_recv ab_mt 78 [v0, v1] w.2 = true) (h8 : ab_w8 st = true) : ab_Run ab_mt 48 56 ls (v1 :: v0 :: st) w = ab_aft 78 48 56 ls st (ab_Cl 78 [v0, v1] w) := E_call2 rfl h1 h8
theorem e_48_59 {ls : ab_L} {st : List Value} {w : ab_W} (h : ab_isI (ls 1) = true) : ab_Run ab_mt 48 59 ls st w = ab_Run ab_mt 48 62 (ab_l1 ls 1 (.int (ab_gi (ls 1) + (-1)))) st w := E_iinc rfl h
theorem e_48_62 {ls : ab_L} {st : List Value} {w : ab_W} : ab_Run ab_mt 48 62 ls st w = ab_Run ab_mt 48 25 ls st w := E_goto rfl
theorem e_48_65 {ls : ab_L} {w : ab_W} : ab_Run ab_mt 48 65 ls [] w = some (.inl none, w) := E_ret0 rfl
theorem rv_48 {σ : ab_S} {t : Nat} : ab_recv ab_mt 48 [.ref t] σ = ab_isO 1 (σ t) := rfl
theorem e_49_0 {ls : ab_L} {st : List Value} {w : ab_W} (h : ab_isR (ls 0) = true) : ab_Run ab_mt 49 0 ls st w = ab_Run ab_mt 49 1 ls (ab_gv (ls 0) :: st) w := E_loadr (n := 1) rfl h
theorem e_49_1 {ls : ab_L} {st : List Value} {w : ab_W} : ab_Run ab_mt 49 1 ls st w = ab_Run ab_mt 49 2 ls (.int (nI 0) :: st) w := E_push (n := 1) rfl
theorem e_49_2 {ls : ab_L} {st : List Value} {w : ab_W} {a : Nat} {x : Int32} (h : ab_isF 1 6 (w.2 a) = true) : ab_Run ab_mt 49 2 ls (.int x :: .ref a :: st) w = ab_Run ab_mt 49 5 ls st (w.1, ab_up w.2 a (ab_sf 6 (.int x) (w.2 a))) := E_put rfl h rfl
theorem e_49_5 {ls : ab_L} {st : List Value} {w : ab_W} : ab_Run ab_mt 49 5 ls st w = ab_Run ab_mt 49 6 ls (.int (nI 0) :: st) w := E_push (n := 1) rfl
theorem e_49_6 {ls : ab_L} {st : List Value} {w : ab_W} {x : Int32} : ab_Run ab_mt 49 6 ls (.int x :: st) w = ab_Run ab_mt 49 7 (ab_l1 ls 1 (.int x)) st w := E_stori (n := 1) rfl
theorem e_49_7 {ls : ab_L} {st : List Value} {w : ab_W} (h : ab_isI (ls 1) = true) : ab_Run ab_mt 49 7 ls st w = ab_Run ab_mt 49 8 ls (ab_gv (ls 1) :: st) w := E_loadi (n := 1) rfl h
theorem e_49_8 {ls : ab_L} {st : List Value} {w : ab_W} (h : ab_isR (ls 0) = true) : ab_Run ab_mt 49 8 ls st w = ab_Run ab_mt 49 9 ls (ab_gv (ls 0) :: st) w := E_loadr (n := 1) rfl h
theorem e_49_9 {ls : ab_L} {st : List Value} {w : ab_W} {a : Nat} (h : ab_isF 1 0 (w.2 a) = true) : ab_Run ab_mt 49 9 ls (.ref a :: st) w = ab_Run ab_mt 49 12 ls (ab_fv 0 (w.2 a) :: st) w := E_get rfl h
theorem e_49_12 {ls : ab_L} {st : List Value} {w : ab_W} {a : Nat} (h : ab_isF 2 0 (w.2 a) = true) : ab_Run ab_mt 49 12 ls (.ref a :: st) w = ab_Run ab_mt 49 15 ls (ab_fv 0 (w.2 a) :: st) w := E_get rfl h
theorem e_49_15 {ls : ab_L} {st : List Value} {w : ab_W} {a : Nat} (h : ab_isF 3 3 (w.2 a) = true) : ab_Run ab_mt 49 15 ls (.ref a :: st) w = ab_Run ab_mt 49 18 ls (ab_fv 3 (w.2 a) :: st) w := E_get rfl h
theorem e_49_18 {ls : ab_L} {st : List Value} {w : ab_W} {x y : Int32} : ab_Run ab_mt 49 18 ls (.int y :: .int x :: st) w = if y ≤ x then ab_Run ab_mt 49 98 ls st w else ab_Run ab_mt 49 21 ls st w := E_ic_ge rfl
theorem e_49_21 {ls : ab_L} {st : List Value} {w : ab_W} (h : ab_isI (ls 1) = true) : ab_Run ab_mt 49 21 ls st w = ab_Run ab_mt 49 22 ls (ab_gv (ls 1) :: st) w := E_loadi (n := 1) rfl h
theorem e_49_22 {ls : ab_L} {st : List Value} {w : ab_W} : ab_Run ab_mt 49 22 ls st w = ab_Run ab_mt 49 24 ls (.int (nI 24) :: st) w := E_push (n := 2) rfl
theorem e_49_24 {ls : ab_L} {st : List Value} {w : ab_W} {x y : Int32} : ab_Run ab_mt 49 24 ls (.int y :: .int x :: st) w = if y ≤ x then ab_Run ab_mt 49 98 ls st w else ab_Run ab_mt 49 27 ls st w := E_ic_ge rfl
theorem e_49_27 {ls : ab_L} {st : List Value} {w : ab_W} (h : ab_isR (ls 0) = true) : ab_Run ab_mt 49 27 ls st w = ab_Run ab_mt 49 28 ls (ab_gv (ls 0) :: st) w := E_loadr (n := 1) rfl h
theorem e_49_28 {ls : ab_L} {st : List Value} {w : ab_W} {a : Nat} (h : ab_isF 1 1 (w.2 a) = true) : ab_Run ab_mt 49 28 ls (.ref a :: st) w = ab_Run ab_mt 49 31 ls (ab_fv 1 (w.2 a) :: st) w := E_get rfl h
theorem e_49_31 {ls : ab_L} {st : List Value} {w : ab_W} (h : ab_isI (ls 1) = true) : ab_Run ab_mt 49 31 ls st w = ab_Run ab_mt 49 32 ls (ab_gv (ls 1) :: st) w := E_loadi (n := 1) rfl h
theorem e_49_32 {ls : ab_L} {st : List Value} {w : ab_W} (h : ab_isR (ls 0) = true) : ab_Run ab_mt 49 32 ls st w = ab_Run ab_mt 49 33 ls (ab_gv (ls 0) :: st) w := E_loadr (n := 1) rfl h
theorem e_49_33 {ls : ab_L} {st : List Value} {w : ab_W} {a : Nat} (h : ab_isF 1 6 (w.2 a) = true) : ab_Run ab_mt 49 33 ls (.ref a :: st) w = ab_Run ab_mt 49 36 ls (ab_fv 6 (w.2 a) :: st) w := E_get rfl h
theorem e_49_36 {ls : ab_L} {st : List Value} {w : ab_W} {a : Nat} {i x : Int32} (h : ab_inW i (w.2 a) = true) : ab_Run ab_mt 49 36 ls (.int x :: .int i :: .ref a :: st) w = ab_Run ab_mt 49 37 ls st (w.1, ab_up w.2 a (ab_sI i.toNatClampNeg x (w.2 a))) := E_iast rfl h
theorem e_49_37 {ls : ab_L} {st : List Value} {w : ab_W} (h : ab_isR (ls 0) = true) : ab_Run ab_mt 49 37 ls st w = ab_Run ab_mt 49 38 ls (ab_gv (ls 0) :: st) w := E_loadr (n := 1) rfl h
theorem e_49_38 {ls : ab_L} {st : List Value} {w : ab_W} {a : Nat} (h : ab_isF 1 6 (w.2 a) = true) : ab_Run ab_mt 49 38 ls (.ref a :: st) w = ab_Run ab_mt 49 41 ls (ab_fv 6 (w.2 a) :: st) w := E_get rfl h
theorem e_49_41 {ls : ab_L} {st : List Value} {w : ab_W} (h : ab_isR (ls 0) = true) : ab_Run ab_mt 49 41 ls st w = ab_Run ab_mt 49 42 ls (ab_gv (ls 0) :: st) w := E_loadr (n := 1) rfl h
theorem e_49_42 {ls : ab_L} {st : List Value} {w : ab_W} {a : Nat} (h : ab_isF 1 0 (w.2 a) = true) : ab_Run ab_mt 49 42 ls (.ref a :: st) w = ab_Run ab_mt 49 45 ls (ab_fv 0 (w.2 a) :: st) w := E_get rfl h
theorem e_49_45 {ls : ab_L} {st : List Value} {w : ab_W} {a : Nat} (h : ab_isF 2 0 (w.2 a) = true) : ab_Run ab_mt 49 45 ls (.ref a :: st) w = ab_Run ab_mt 49 48 ls (ab_fv 0 (w.2 a) :: st) w := E_get rfl h
theorem e_49_48 {ls : ab_L} {st : List Value} {w : ab_W} (h : ab_isI (ls 1) = true) : ab_Run ab_mt 49 48 ls st w = ab_Run ab_mt 49 49 ls (ab_gv (ls 1) :: st) w := E_loadi (n := 1) rfl h
theorem e_49_49 {ls : ab_L} {st : List Value} {w : ab_W} : ab_Run ab_mt 49 49 ls st w = ab_Run ab_mt 49 50 ls (.int (nI 0) :: st) w := E_push (n := 1) rfl
theorem e_49_50 {ls : ab_L} {st : List Value} {w : ab_W} {v0 v1 v2 : Value} (h1 : ab_recv ab_mt 75 [v0, v1, v2] w.2 = true) (h8 : ab_w8 st = true) : ab_Run ab_mt 49 50 ls (v2 :: v1 :: v0 :: st) w = ab_aft 75 49 50 ls st (ab_Cl 75 [v0, v1, v2] w) := E_call3 rfl h1 h8
theorem e_49_53 {ls : ab_L} {st : List Value} {w : ab_W} {x y : Int32} : ab_Run ab_mt 49 53 ls (.int y :: .int x :: st) w = ab_Run ab_mt 49 54 ls (.int (x + y) :: st) w := E_ib (f := fun x y => x + y) rfl
theorem e_49_54 {ls : ab_L} {st : List Value} {w : ab_W} : ab_Run ab_mt 49 54 ls st w = ab_Run ab_mt 49 57 ls (.int (nI 288) :: st) w := E_push (n := 3) rfl
theorem e_49_57 {ls : ab_L} {st : List Value} {w : ab_W} {x y : Int32} (h8 : ab_w8 st = true) : ab_Run ab_mt 49 57 ls (.int y :: .int x :: st) w = ab_Run ab_mt 49 60 ls (.int (if y < x then y else x) :: st) w := E_mini rfl h8
theorem e_49_60 {ls : ab_L} {st : List Value} {w : ab_W} {x : Int32} : ab_Run ab_mt 49 60 ls (.int x :: st) w = ab_Run ab_mt 49 61 (ab_l1 ls 2 (.int x)) st w := E_stori (n := 1) rfl
theorem e_49_61 {ls : ab_L} {st : List Value} {w : ab_W} (h : ab_isR (ls 0) = true) : ab_Run ab_mt 49 61 ls st w = ab_Run ab_mt 49 62 ls (ab_gv (ls 0) :: st) w := E_loadr (n := 1) rfl h
theorem e_49_62 {ls : ab_L} {st : List Value} {w : ab_W} {a : Nat} (h : ab_isF 1 6 (w.2 a) = true) : ab_Run ab_mt 49 62 ls (.ref a :: st) w = ab_Run ab_mt 49 65 ls (ab_fv 6 (w.2 a) :: st) w := E_get rfl h
theorem e_49_65 {ls : ab_L} {st : List Value} {w : ab_W} (h : ab_isI (ls 2) = true) : ab_Run ab_mt 49 65 ls st w = ab_Run ab_mt 49 66 ls (ab_gv (ls 2) :: st) w := E_loadi (n := 1) rfl h
theorem e_49_66 {ls : ab_L} {st : List Value} {w : ab_W} {x y : Int32} : ab_Run ab_mt 49 66 ls (.int y :: .int x :: st) w = if y ≤ x then ab_Run ab_mt 49 92 ls st w else ab_Run ab_mt 49 69 ls st w := E_ic_ge rfl
theorem e_49_69 {ls : ab_L} {st : List Value} {w : ab_W} (h : ab_isR (ls 0) = true) : ab_Run ab_mt 49 69 ls st w = ab_Run ab_mt 49 70 ls (ab_gv (ls 0) :: st) w := E_loadr (n := 1) rfl h
theorem e_49_70 {ls : ab_L} {st : List Value} {w : ab_W} {a : Nat} (h : ab_isF 1 2 (w.2 a) = true) : ab_Run ab_mt 49 70 ls (.ref a :: st) w = ab_Run ab_mt 49 73 ls (ab_fv 2 (w.2 a) :: st) w := E_get rfl h
theorem e_49_73 {ls : ab_L} {st : List Value} {w : ab_W} (h : ab_isR (ls 0) = true) : ab_Run ab_mt 49 73 ls st w = ab_Run ab_mt 49 74 ls (ab_gv (ls 0) :: st) w := E_loadr (n := 1) rfl h
theorem e_49_74 {ls : ab_L} {st : List Value} {w : ab_W} {a : Nat} (h : ab_isF 1 6 (w.2 a) = true) : ab_Run ab_mt 49 74 ls (.ref a :: st) w = ab_Run ab_mt 49 77 ls (ab_fv 6 (w.2 a) :: st) w := E_get rfl h
theorem e_49_77 {ls : ab_L} {st : List Value} {w : ab_W} (h : ab_isI (ls 1) = true) : ab_Run ab_mt 49 77 ls st w = ab_Run ab_mt 49 78 ls (ab_gv (ls 1) :: st) w := E_loadi (n := 1) rfl h
theorem e_49_78 {ls : ab_L} {st : List Value} {w : ab_W} {a : Nat} {i x : Int32} (h : ab_inW i (w.2 a) = true) : ab_Run ab_mt 49 78 ls (.int x :: .int i :: .ref a :: st) w = ab_Run ab_mt 49 79 ls st (w.1, ab_up w.2 a (ab_sI i.toNatClampNeg x (w.2 a))) := E_iast rfl h
theorem e_49_79 {ls : ab_L} {st : List Value} {w : ab_W} (h : ab_isR (ls 0) = true) : ab_Run ab_mt 49 79 ls st w = ab_Run ab_mt 49 80 ls (ab_gv (ls 0) :: st) w := E_loadr (n := 1) rfl h
theorem e_49_80 {ls : ab_L} {st : List Value} {w : ab_W} {x : Nat} : ab_Run ab_mt 49 80 ls (.ref x :: st) w = ab_Run ab_mt 49 81 ls (.ref x :: .ref x :: st) w := E_dup_r rfl
theorem e_49_81 {ls : ab_L} {st : List Value} {w : ab_W} {a : Nat} (h : ab_isF 1 6 (w.2 a) = true) : ab_Run ab_mt 49 81 ls (.ref a :: st) w = ab_Run ab_mt 49 84 ls (ab_fv 6 (w.2 a) :: st) w := E_get rfl h
theorem e_49_84 {ls : ab_L} {st : List Value} {w : ab_W} : ab_Run ab_mt 49 84 ls st w = ab_Run ab_mt 49 85 ls (.int (nI 1) :: st) w := E_push (n := 1) rfl
theorem e_49_85 {ls : ab_L} {st : List Value} {w : ab_W} {x y : Int32} : ab_Run ab_mt 49 85 ls (.int y :: .int x :: st) w = ab_Run ab_mt 49 86 ls (.int (x + y) :: st) w := E_ib (f := fun x y => x + y) rfl
theorem e_49_86 {ls : ab_L} {st : List Value} {w : ab_W} {a : Nat} {x : Int32} (h : ab_isF 1 6 (w.2 a) = true) : ab_Run ab_mt 49 86 ls (.int x :: .ref a :: st) w = ab_Run ab_mt 49 89 ls st (w.1, ab_up w.2 a (ab_sf 6 (.int x) (w.2 a))) := E_put rfl h rfl
theorem e_49_89 {ls : ab_L} {st : List Value} {w : ab_W} : ab_Run ab_mt 49 89 ls st w = ab_Run ab_mt 49 61 ls st w := E_goto rfl
theorem e_49_92 {ls : ab_L} {st : List Value} {w : ab_W} (h : ab_isI (ls 1) = true) : ab_Run ab_mt 49 92 ls st w = ab_Run ab_mt 49 95 (ab_l1 ls 1 (.int (ab_gi (ls 1) + (nI 1)))) st w := E_iinc rfl h
theorem e_49_95 {ls : ab_L} {st : List Value} {w : ab_W} : ab_Run ab_mt 49 95 ls st w = ab_Run ab_mt 49 7 ls st w := E_goto rfl
theorem e_49_98 {ls : ab_L} {w : ab_W} : ab_Run ab_mt 49 98 ls [] w = some (.inl none, w) := E_ret0 rfl
theorem rv_49 {σ : ab_S} {t : Nat} : ab_recv ab_mt 49 [.ref t] σ = ab_isO 1 (σ t) := rfl
theorem e_50_0 {ls : ab_L} {st : List Value} {w : ab_W} : ab_Run ab_mt 50 0 ls st w = ab_Run ab_mt 50 1 ls (.int (-1) :: st) w := E_push (n := 1) rfl
theorem e_50_1 {ls : ab_L} {st : List Value} {w : ab_W} {x : Int32} : ab_Run ab_mt 50 1 ls (.int x :: st) w = ab_Run ab_mt 50 2 (ab_l1 ls 1 (.int x)) st w := E_stori (n := 1) rfl
theorem e_50_2 {ls : ab_L} {st : List Value} {w : ab_W} : ab_Run ab_mt 50 2 ls st w = ab_Run ab_mt 50 3 ls (.int (nI 0) :: st) w := E_push (n := 1) rfl
theorem e_50_3 {ls : ab_L} {st : List Value} {w : ab_W} {x : Int32} : ab_Run ab_mt 50 3 ls (.int x :: st) w = ab_Run ab_mt 50 4 (ab_l1 ls 2 (.int x)) st w := E_stori (n := 1) rfl
theorem e_50_4 {ls : ab_L} {st : List Value} {w : ab_W} (h : ab_isI (ls 2) = true) : ab_Run ab_mt 50 4 ls st w = ab_Run ab_mt 50 5 ls (ab_gv (ls 2) :: st) w := E_loadi (n := 1) rfl h
theorem e_50_5 {ls : ab_L} {st : List Value} {w : ab_W} (h : ab_isR (ls 0) = true) : ab_Run ab_mt 50 5 ls st w = ab_Run ab_mt 50 6 ls (ab_gv (ls 0) :: st) w := E_loadr (n := 1) rfl h
theorem e_50_6 {ls : ab_L} {st : List Value} {w : ab_W} {a : Nat} (h : ab_isF 1 6 (w.2 a) = true) : ab_Run ab_mt 50 6 ls (.ref a :: st) w = ab_Run ab_mt 50 9 ls (ab_fv 6 (w.2 a) :: st) w := E_get rfl h
theorem e_50_9 {ls : ab_L} {st : List Value} {w : ab_W} {x y : Int32} : ab_Run ab_mt 50 9 ls (.int y :: .int x :: st) w = if y ≤ x then ab_Run ab_mt 50 81 ls st w else ab_Run ab_mt 50 12 ls st w := E_ic_ge rfl
theorem e_50_12 {ls : ab_L} {st : List Value} {w : ab_W} (h : ab_isI (ls 1) = true) : ab_Run ab_mt 50 12 ls st w = ab_Run ab_mt 50 13 ls (ab_gv (ls 1) :: st) w := E_loadi (n := 1) rfl h
theorem e_50_13 {ls : ab_L} {st : List Value} {w : ab_W} : ab_Run ab_mt 50 13 ls st w = ab_Run ab_mt 50 14 ls (.int (nI 1) :: st) w := E_push (n := 1) rfl
theorem e_50_14 {ls : ab_L} {st : List Value} {w : ab_W} {x y : Int32} : ab_Run ab_mt 50 14 ls (.int y :: .int x :: st) w = ab_Run ab_mt 50 15 ls (.int (x + y) :: st) w := E_ib (f := fun x y => x + y) rfl
theorem e_50_15 {ls : ab_L} {st : List Value} {w : ab_W} (h : ab_isR (ls 0) = true) : ab_Run ab_mt 50 15 ls st w = ab_Run ab_mt 50 16 ls (ab_gv (ls 0) :: st) w := E_loadr (n := 1) rfl h
theorem e_50_16 {ls : ab_L} {st : List Value} {w : ab_W} {a : Nat} (h : ab_isF 1 0 (w.2 a) = true) : ab_Run ab_mt 50 16 ls (.ref a :: st) w = ab_Run ab_mt 50 19 ls (ab_fv 0 (w.2 a) :: st) w := E_get rfl h
theorem e_50_19 {ls : ab_L} {st : List Value} {w : ab_W} {a : Nat} (h : ab_isF 2 1 (w.2 a) = true) : ab_Run ab_mt 50 19 ls (.ref a :: st) w = ab_Run ab_mt 50 22 ls (ab_fv 1 (w.2 a) :: st) w := E_get rfl h
theorem e_50_22 {ls : ab_L} {st : List Value} {w : ab_W} {a : Nat} (h : ab_isF 3 3 (w.2 a) = true) : ab_Run ab_mt 50 22 ls (.ref a :: st) w = ab_Run ab_mt 50 25 ls (ab_fv 3 (w.2 a) :: st) w := E_get rfl h
theorem e_50_25 {ls : ab_L} {st : List Value} {w : ab_W} {x y : Int32} : ab_Run ab_mt 50 25 ls (.int y :: .int x :: st) w = if y ≤ x then ab_Run ab_mt 50 52 ls st w else ab_Run ab_mt 50 28 ls st w := E_ic_ge rfl
theorem e_50_28 {ls : ab_L} {st : List Value} {w : ab_W} (h : ab_isR (ls 0) = true) : ab_Run ab_mt 50 28 ls st w = ab_Run ab_mt 50 29 ls (ab_gv (ls 0) :: st) w := E_loadr (n := 1) rfl h
theorem e_50_29 {ls : ab_L} {st : List Value} {w : ab_W} {a : Nat} (h : ab_isF 1 0 (w.2 a) = true) : ab_Run ab_mt 50 29 ls (.ref a :: st) w = ab_Run ab_mt 50 32 ls (ab_fv 0 (w.2 a) :: st) w := E_get rfl h
theorem e_50_32 {ls : ab_L} {st : List Value} {w : ab_W} {a : Nat} (h : ab_isF 2 1 (w.2 a) = true) : ab_Run ab_mt 50 32 ls (.ref a :: st) w = ab_Run ab_mt 50 35 ls (ab_fv 1 (w.2 a) :: st) w := E_get rfl h
theorem e_50_35 {ls : ab_L} {st : List Value} {w : ab_W} (h : ab_isI (ls 1) = true) : ab_Run ab_mt 50 35 ls st w = ab_Run ab_mt 50 36 ls (ab_gv (ls 1) :: st) w := E_loadi (n := 1) rfl h
theorem e_50_36 {ls : ab_L} {st : List Value} {w : ab_W} : ab_Run ab_mt 50 36 ls st w = ab_Run ab_mt 50 37 ls (.int (nI 1) :: st) w := E_push (n := 1) rfl
theorem e_50_37 {ls : ab_L} {st : List Value} {w : ab_W} {x y : Int32} : ab_Run ab_mt 50 37 ls (.int y :: .int x :: st) w = ab_Run ab_mt 50 38 ls (.int (x + y) :: st) w := E_ib (f := fun x y => x + y) rfl
theorem e_50_38 {ls : ab_L} {st : List Value} {w : ab_W} : ab_Run ab_mt 50 38 ls st w = ab_Run ab_mt 50 39 ls (.int (nI 0) :: st) w := E_push (n := 1) rfl
theorem e_50_39 {ls : ab_L} {st : List Value} {w : ab_W} {v0 v1 v2 : Value} (h1 : ab_recv ab_mt 75 [v0, v1, v2] w.2 = true) (h8 : ab_w8 st = true) : ab_Run ab_mt 50 39 ls (v2 :: v1 :: v0 :: st) w = ab_aft 75 50 39 ls st (ab_Cl 75 [v0, v1, v2] w) := E_call3 rfl h1 h8
theorem e_50_42 {ls : ab_L} {st : List Value} {w : ab_W} (h : ab_isI (ls 2) = true) : ab_Run ab_mt 50 42 ls st w = ab_Run ab_mt 50 43 ls (ab_gv (ls 2) :: st) w := E_loadi (n := 1) rfl h
theorem e_50_43 {ls : ab_L} {st : List Value} {w : ab_W} {x y : Int32} : ab_Run ab_mt 50 43 ls (.int y :: .int x :: st) w = if y < x then ab_Run ab_mt 50 52 ls st w else ab_Run ab_mt 50 46 ls st w := E_ic_gt rfl
theorem e_50_46 {ls : ab_L} {st : List Value} {w : ab_W} (h : ab_isI (ls 1) = true) : ab_Run ab_mt 50 46 ls st w = ab_Run ab_mt 50 49 (ab_l1 ls 1 (.int (ab_gi (ls 1) + (nI 1)))) st w := E_iinc rfl h
theorem e_50_49 {ls : ab_L} {st : List Value} {w : ab_W} : ab_Run ab_mt 50 49 ls st w = ab_Run ab_mt 50 12 ls st w := E_goto rfl
theorem e_50_52 {ls : ab_L} {st : List Value} {w : ab_W} (h : ab_isR (ls 0) = true) : ab_Run ab_mt 50 52 ls st w = ab_Run ab_mt 50 53 ls (ab_gv (ls 0) :: st) w := E_loadr (n := 1) rfl h
theorem e_50_53 {ls : ab_L} {st : List Value} {w : ab_W} {a : Nat} (h : ab_isF 1 3 (w.2 a) = true) : ab_Run ab_mt 50 53 ls (.ref a :: st) w = ab_Run ab_mt 50 56 ls (ab_fv 3 (w.2 a) :: st) w := E_get rfl h
theorem e_50_56 {ls : ab_L} {st : List Value} {w : ab_W} (h : ab_isI (ls 2) = true) : ab_Run ab_mt 50 56 ls st w = ab_Run ab_mt 50 57 ls (ab_gv (ls 2) :: st) w := E_loadi (n := 1) rfl h
theorem e_50_57 {ls : ab_L} {st : List Value} {w : ab_W} (h : ab_isI (ls 1) = true) : ab_Run ab_mt 50 57 ls st w = ab_Run ab_mt 50 58 ls (ab_gv (ls 1) :: st) w := E_loadi (n := 1) rfl h
theorem e_50_58 {ls : ab_L} {st : List Value} {w : ab_W} : ab_Run ab_mt 50 58 ls st w = ab_Run ab_mt 50 59 ls (.int (-1) :: st) w := E_push (n := 1) rfl
theorem e_50_59 {ls : ab_L} {st : List Value} {w : ab_W} {x y : Int32} : ab_Run ab_mt 50 59 ls (.int y :: .int x :: st) w = if x = y then ab_Run ab_mt 50 62 ls st w else ab_Run ab_mt 50 68 ls st w := E_ic_ne rfl
theorem e_50_62 {ls : ab_L} {st : List Value} {w : ab_W} : ab_Run ab_mt 50 62 ls st w = ab_Run ab_mt 50 65 ls (.int (nI 1200) :: st) w := E_push (n := 3) rfl
theorem e_50_65 {ls : ab_L} {st : List Value} {w : ab_W} : ab_Run ab_mt 50 65 ls st w = ab_Run ab_mt 50 74 ls st w := E_goto rfl
theorem e_50_68 {ls : ab_L} {st : List Value} {w : ab_W} (h : ab_isR (ls 0) = true) : ab_Run ab_mt 50 68 ls st w = ab_Run ab_mt 50 69 ls (ab_gv (ls 0) :: st) w := E_loadr (n := 1) rfl h
theorem e_50_69 {ls : ab_L} {st : List Value} {w : ab_W} (h : ab_isI (ls 1) = true) : ab_Run ab_mt 50 69 ls st w = ab_Run ab_mt 50 70 ls (ab_gv (ls 1) :: st) w := E_loadi (n := 1) rfl h
theorem e_50_70 {ls : ab_L} {st : List Value} {w : ab_W} (h : ab_isI (ls 2) = true) : ab_Run ab_mt 50 70 ls st w = ab_Run ab_mt 50 71 ls (ab_gv (ls 2) :: st) w := E_loadi (n := 1) rfl h
theorem e_50_71 {ls : ab_L} {st : List Value} {w : ab_W} {v0 v1 v2 : Value} (h1 : ab_recv ab_mt 51 [v0, v1, v2] w.2 = true) (h8 : ab_w8 st = true) : ab_Run ab_mt 50 71 ls (v2 :: v1 :: v0 :: st) w = ab_aft 51 50 71 ls st (ab_Cl 51 [v0, v1, v2] w) := E_call3 rfl h1 h8
theorem e_50_74 {ls : ab_L} {st : List Value} {w : ab_W} {a : Nat} {i x : Int32} (h : ab_inW i (w.2 a) = true) : ab_Run ab_mt 50 74 ls (.int x :: .int i :: .ref a :: st) w = ab_Run ab_mt 50 75 ls st (w.1, ab_up w.2 a (ab_sI i.toNatClampNeg x (w.2 a))) := E_iast rfl h
theorem e_50_75 {ls : ab_L} {st : List Value} {w : ab_W} (h : ab_isI (ls 2) = true) : ab_Run ab_mt 50 75 ls st w = ab_Run ab_mt 50 78 (ab_l1 ls 2 (.int (ab_gi (ls 2) + (nI 1)))) st w := E_iinc rfl h
theorem e_50_78 {ls : ab_L} {st : List Value} {w : ab_W} : ab_Run ab_mt 50 78 ls st w = ab_Run ab_mt 50 4 ls st w := E_goto rfl
theorem e_50_81 {ls : ab_L} {w : ab_W} : ab_Run ab_mt 50 81 ls [] w = some (.inl none, w) := E_ret0 rfl
theorem rv_50 {σ : ab_S} {t : Nat} : ab_recv ab_mt 50 [.ref t] σ = ab_isO 1 (σ t) := rfl
theorem e_51_0 {ls : ab_L} {st : List Value} {w : ab_W} (h : ab_isR (ls 0) = true) : ab_Run ab_mt 51 0 ls st w = ab_Run ab_mt 51 1 ls (ab_gv (ls 0) :: st) w := E_loadr (n := 1) rfl h
theorem e_51_1 {ls : ab_L} {st : List Value} {w : ab_W} {a : Nat} (h : ab_isF 1 0 (w.2 a) = true) : ab_Run ab_mt 51 1 ls (.ref a :: st) w = ab_Run ab_mt 51 4 ls (ab_fv 0 (w.2 a) :: st) w := E_get rfl h
theorem e_51_4 {ls : ab_L} {st : List Value} {w : ab_W} {a : Nat} (h : ab_isF 2 1 (w.2 a) = true) : ab_Run ab_mt 51 4 ls (.ref a :: st) w = ab_Run ab_mt 51 7 ls (ab_fv 1 (w.2 a) :: st) w := E_get rfl h
theorem e_51_7 {ls : ab_L} {st : List Value} {w : ab_W} {x : Nat} : ab_Run ab_mt 51 7 ls (.ref x :: st) w = ab_Run ab_mt 51 8 (ab_l1 ls 3 (.ref x)) st w := E_storr (n := 1) rfl
theorem e_51_8 {ls : ab_L} {st : List Value} {w : ab_W} (h : ab_isR (ls 3) = true) : ab_Run ab_mt 51 8 ls st w = ab_Run ab_mt 51 9 ls (ab_gv (ls 3) :: st) w := E_loadr (n := 1) rfl h
theorem e_51_9 {ls : ab_L} {st : List Value} {w : ab_W} (h : ab_isI (ls 1) = true) : ab_Run ab_mt 51 9 ls st w = ab_Run ab_mt 51 10 ls (ab_gv (ls 1) :: st) w := E_loadi (n := 1) rfl h
theorem e_51_10 {ls : ab_L} {st : List Value} {w : ab_W} : ab_Run ab_mt 51 10 ls st w = ab_Run ab_mt 51 11 ls (.int (nI 1) :: st) w := E_push (n := 1) rfl
theorem e_51_11 {ls : ab_L} {st : List Value} {w : ab_W} {v0 v1 v2 : Value} (h1 : ab_recv ab_mt 75 [v0, v1, v2] w.2 = true) (h8 : ab_w8 st = true) : ab_Run ab_mt 51 11 ls (v2 :: v1 :: v0 :: st) w = ab_aft 75 51 11 ls st (ab_Cl 75 [v0, v1, v2] w) := E_call3 rfl h1 h8
theorem e_51_14 {ls : ab_L} {st : List Value} {w : ab_W} {x : Int32} : ab_Run ab_mt 51 14 ls (.int x :: st) w = ab_Run ab_mt 51 16 (ab_l1 ls 4 (.int x)) st w := E_stori (n := 2) rfl
theorem e_51_16 {ls : ab_L} {st : List Value} {w : ab_W} (h : ab_isR (ls 3) = true) : ab_Run ab_mt 51 16 ls st w = ab_Run ab_mt 51 17 ls (ab_gv (ls 3) :: st) w := E_loadr (n := 1) rfl h
theorem e_51_17 {ls : ab_L} {st : List Value} {w : ab_W} (h : ab_isI (ls 1) = true) : ab_Run ab_mt 51 17 ls st w = ab_Run ab_mt 51 18 ls (ab_gv (ls 1) :: st) w := E_loadi (n := 1) rfl h
theorem e_51_18 {ls : ab_L} {st : List Value} {w : ab_W} : ab_Run ab_mt 51 18 ls st w = ab_Run ab_mt 51 19 ls (.int (nI 2) :: st) w := E_push (n := 1) rfl
theorem e_51_19 {ls : ab_L} {st : List Value} {w : ab_W} {v0 v1 v2 : Value} (h1 : ab_recv ab_mt 75 [v0, v1, v2] w.2 = true) (h8 : ab_w8 st = true) : ab_Run ab_mt 51 19 ls (v2 :: v1 :: v0 :: st) w = ab_aft 75 51 19 ls st (ab_Cl 75 [v0, v1, v2] w) := E_call3 rfl h1 h8
theorem e_51_22 {ls : ab_L} {st : List Value} {w : ab_W} {x : Int32} : ab_Run ab_mt 51 22 ls (.int x :: st) w = if x = 0 then ab_Run ab_mt 51 35 ls st w else ab_Run ab_mt 51 25 ls st w := E_if_eq rfl
theorem e_51_25 {ls : ab_L} {st : List Value} {w : ab_W} (h : ab_isI (ls 1) = true) : ab_Run ab_mt 51 25 ls st w = ab_Run ab_mt 51 26 ls (ab_gv (ls 1) :: st) w := E_loadi (n := 1) rfl h
theorem e_51_26 {ls : ab_L} {st : List Value} {w : ab_W} : ab_Run ab_mt 51 26 ls st w = ab_Run ab_mt 51 27 ls (.int (nI 1) :: st) w := E_push (n := 1) rfl
theorem e_51_27 {ls : ab_L} {st : List Value} {w : ab_W} {x y : Int32} : ab_Run ab_mt 51 27 ls (.int y :: .int x :: st) w = ab_Run ab_mt 51 28 ls (.int (x + y) :: st) w := E_ib (f := fun x y => x + y) rfl
theorem e_51_28 {ls : ab_L} {st : List Value} {w : ab_W} (h : ab_isR (ls 3) = true) : ab_Run ab_mt 51 28 ls st w = ab_Run ab_mt 51 29 ls (ab_gv (ls 3) :: st) w := E_loadr (n := 1) rfl h
theorem e_51_29 {ls : ab_L} {st : List Value} {w : ab_W} {a : Nat} (h : ab_isF 3 3 (w.2 a) = true) : ab_Run ab_mt 51 29 ls (.ref a :: st) w = ab_Run ab_mt 51 32 ls (ab_fv 3 (w.2 a) :: st) w := E_get rfl h
theorem e_51_32 {ls : ab_L} {st : List Value} {w : ab_W} {x y : Int32} : ab_Run ab_mt 51 32 ls (.int y :: .int x :: st) w = if x < y then ab_Run ab_mt 51 38 ls st w else ab_Run ab_mt 51 35 ls st w := E_ic_lt rfl
theorem e_51_35 {ls : ab_L} {st : List Value} {w : ab_W} (h : ab_isI (ls 4) = true) : ab_Run ab_mt 51 35 ls st w = ab_Run ab_mt 51 37 ls (ab_gv (ls 4) :: st) w := E_loadi (n := 2) rfl h
theorem e_51_37 {ls : ab_L} {w : ab_W} {x : Int32} : ab_Run ab_mt 51 37 ls [.int x] w = some (.inl (some (.int x)), w) := E_reti rfl
theorem e_51_38 {ls : ab_L} {st : List Value} {w : ab_W} (h : ab_isR (ls 3) = true) : ab_Run ab_mt 51 38 ls st w = ab_Run ab_mt 51 39 ls (ab_gv (ls 3) :: st) w := E_loadr (n := 1) rfl h
theorem e_51_39 {ls : ab_L} {st : List Value} {w : ab_W} (h : ab_isI (ls 1) = true) : ab_Run ab_mt 51 39 ls st w = ab_Run ab_mt 51 40 ls (ab_gv (ls 1) :: st) w := E_loadi (n := 1) rfl h
theorem e_51_40 {ls : ab_L} {st : List Value} {w : ab_W} : ab_Run ab_mt 51 40 ls st w = ab_Run ab_mt 51 41 ls (.int (nI 1) :: st) w := E_push (n := 1) rfl
theorem e_51_41 {ls : ab_L} {st : List Value} {w : ab_W} {x y : Int32} : ab_Run ab_mt 51 41 ls (.int y :: .int x :: st) w = ab_Run ab_mt 51 42 ls (.int (x + y) :: st) w := E_ib (f := fun x y => x + y) rfl
theorem e_51_42 {ls : ab_L} {st : List Value} {w : ab_W} : ab_Run ab_mt 51 42 ls st w = ab_Run ab_mt 51 43 ls (.int (nI 1) :: st) w := E_push (n := 1) rfl
theorem e_51_43 {ls : ab_L} {st : List Value} {w : ab_W} {v0 v1 v2 : Value} (h1 : ab_recv ab_mt 75 [v0, v1, v2] w.2 = true) (h8 : ab_w8 st = true) : ab_Run ab_mt 51 43 ls (v2 :: v1 :: v0 :: st) w = ab_aft 75 51 43 ls st (ab_Cl 75 [v0, v1, v2] w) := E_call3 rfl h1 h8
theorem e_51_46 {ls : ab_L} {st : List Value} {w : ab_W} (h : ab_isI (ls 4) = true) : ab_Run ab_mt 51 46 ls st w = ab_Run ab_mt 51 48 ls (ab_gv (ls 4) :: st) w := E_loadi (n := 2) rfl h
theorem e_51_48 {ls : ab_L} {st : List Value} {w : ab_W} {x y : Int32} : ab_Run ab_mt 51 48 ls (.int y :: .int x :: st) w = ab_Run ab_mt 51 49 ls (.int (x - y) :: st) w := E_ib (f := fun x y => x - y) rfl
theorem e_51_49 {ls : ab_L} {st : List Value} {w : ab_W} {x : Int32} : ab_Run ab_mt 51 49 ls (.int x :: st) w = ab_Run ab_mt 51 50 ls (.long x.toInt64 :: st) w := E_i2l rfl
theorem e_51_50 {ls : ab_L} {st : List Value} {w : ab_W} {x : Int64} : ab_Run ab_mt 51 50 ls (.long x :: st) w = ab_Run ab_mt 51 52 (ab_l2 ls 5 (.long x)) st w := E_storl (n := 2) rfl
theorem e_51_52 {ls : ab_L} {st : List Value} {w : ab_W} (h : ab_isR (ls 3) = true) : ab_Run ab_mt 51 52 ls st w = ab_Run ab_mt 51 53 ls (ab_gv (ls 3) :: st) w := E_loadr (n := 1) rfl h
theorem e_51_53 {ls : ab_L} {st : List Value} {w : ab_W} (h : ab_isI (ls 1) = true) : ab_Run ab_mt 51 53 ls st w = ab_Run ab_mt 51 54 ls (ab_gv (ls 1) :: st) w := E_loadi (n := 1) rfl h
theorem e_51_54 {ls : ab_L} {st : List Value} {w : ab_W} : ab_Run ab_mt 51 54 ls st w = ab_Run ab_mt 51 55 ls (.int (nI 0) :: st) w := E_push (n := 1) rfl
theorem e_51_55 {ls : ab_L} {st : List Value} {w : ab_W} {v0 v1 v2 : Value} (h1 : ab_recv ab_mt 75 [v0, v1, v2] w.2 = true) (h8 : ab_w8 st = true) : ab_Run ab_mt 51 55 ls (v2 :: v1 :: v0 :: st) w = ab_aft 75 51 55 ls st (ab_Cl 75 [v0, v1, v2] w) := E_call3 rfl h1 h8
theorem e_51_58 {ls : ab_L} {st : List Value} {w : ab_W} {x : Int32} : ab_Run ab_mt 51 58 ls (.int x :: st) w = ab_Run ab_mt 51 60 (ab_l1 ls 7 (.int x)) st w := E_stori (n := 2) rfl
theorem e_51_60 {ls : ab_L} {st : List Value} {w : ab_W} (h : ab_isR (ls 3) = true) : ab_Run ab_mt 51 60 ls st w = ab_Run ab_mt 51 61 ls (ab_gv (ls 3) :: st) w := E_loadr (n := 1) rfl h
theorem e_51_61 {ls : ab_L} {st : List Value} {w : ab_W} (h : ab_isI (ls 1) = true) : ab_Run ab_mt 51 61 ls st w = ab_Run ab_mt 51 62 ls (ab_gv (ls 1) :: st) w := E_loadi (n := 1) rfl h
theorem e_51_62 {ls : ab_L} {st : List Value} {w : ab_W} : ab_Run ab_mt 51 62 ls st w = ab_Run ab_mt 51 63 ls (.int (nI 1) :: st) w := E_push (n := 1) rfl
theorem e_51_63 {ls : ab_L} {st : List Value} {w : ab_W} {x y : Int32} : ab_Run ab_mt 51 63 ls (.int y :: .int x :: st) w = ab_Run ab_mt 51 64 ls (.int (x + y) :: st) w := E_ib (f := fun x y => x + y) rfl
theorem e_51_64 {ls : ab_L} {st : List Value} {w : ab_W} : ab_Run ab_mt 51 64 ls st w = ab_Run ab_mt 51 65 ls (.int (nI 0) :: st) w := E_push (n := 1) rfl
theorem e_51_65 {ls : ab_L} {st : List Value} {w : ab_W} {v0 v1 v2 : Value} (h1 : ab_recv ab_mt 75 [v0, v1, v2] w.2 = true) (h8 : ab_w8 st = true) : ab_Run ab_mt 51 65 ls (v2 :: v1 :: v0 :: st) w = ab_aft 75 51 65 ls st (ab_Cl 75 [v0, v1, v2] w) := E_call3 rfl h1 h8
theorem e_51_68 {ls : ab_L} {st : List Value} {w : ab_W} (h : ab_isI (ls 7) = true) : ab_Run ab_mt 51 68 ls st w = ab_Run ab_mt 51 70 ls (ab_gv (ls 7) :: st) w := E_loadi (n := 2) rfl h
theorem e_51_70 {ls : ab_L} {st : List Value} {w : ab_W} {x y : Int32} : ab_Run ab_mt 51 70 ls (.int y :: .int x :: st) w = ab_Run ab_mt 51 71 ls (.int (x - y) :: st) w := E_ib (f := fun x y => x - y) rfl
theorem e_51_71 {ls : ab_L} {st : List Value} {w : ab_W} {x : Int32} : ab_Run ab_mt 51 71 ls (.int x :: st) w = ab_Run ab_mt 51 73 (ab_l1 ls 8 (.int x)) st w := E_stori (n := 2) rfl
theorem e_51_73 {ls : ab_L} {st : List Value} {w : ab_W} (h : ab_isI (ls 4) = true) : ab_Run ab_mt 51 73 ls st w = ab_Run ab_mt 51 75 ls (ab_gv (ls 4) :: st) w := E_loadi (n := 2) rfl h
theorem e_51_75 {ls : ab_L} {st : List Value} {w : ab_W} (h : ab_isL (ls 5) = true) (h2 : (ls 6).isNone = true) : ab_Run ab_mt 51 75 ls st w = ab_Run ab_mt 51 77 ls (ab_gv (ls 5) :: st) w := E_loadl (n := 2) rfl h h2
theorem e_51_77 {ls : ab_L} {st : List Value} {w : ab_W} (h : ab_isI (ls 2) = true) : ab_Run ab_mt 51 77 ls st w = ab_Run ab_mt 51 78 ls (ab_gv (ls 2) :: st) w := E_loadi (n := 1) rfl h
theorem e_51_78 {ls : ab_L} {st : List Value} {w : ab_W} (h : ab_isI (ls 7) = true) : ab_Run ab_mt 51 78 ls st w = ab_Run ab_mt 51 80 ls (ab_gv (ls 7) :: st) w := E_loadi (n := 2) rfl h
theorem e_51_80 {ls : ab_L} {st : List Value} {w : ab_W} {x y : Int32} : ab_Run ab_mt 51 80 ls (.int y :: .int x :: st) w = ab_Run ab_mt 51 81 ls (.int (x - y) :: st) w := E_ib (f := fun x y => x - y) rfl
theorem e_51_81 {ls : ab_L} {st : List Value} {w : ab_W} {x : Int32} : ab_Run ab_mt 51 81 ls (.int x :: st) w = ab_Run ab_mt 51 82 ls (.long x.toInt64 :: st) w := E_i2l rfl
theorem e_51_82 {ls : ab_L} {st : List Value} {w : ab_W} {x y : Int64} : ab_Run ab_mt 51 82 ls (.long y :: .long x :: st) w = ab_Run ab_mt 51 83 ls (.long (x * y) :: st) w := E_lb (f := fun x y => x * y) rfl
theorem e_51_83 {ls : ab_L} {st : List Value} {w : ab_W} (h : ab_isI (ls 8) = true) : ab_Run ab_mt 51 83 ls st w = ab_Run ab_mt 51 85 ls (ab_gv (ls 8) :: st) w := E_loadi (n := 2) rfl h
theorem e_51_85 {ls : ab_L} {st : List Value} {w : ab_W} {x : Int32} : ab_Run ab_mt 51 85 ls (.int x :: st) w = ab_Run ab_mt 51 86 ls (.long x.toInt64 :: st) w := E_i2l rfl
theorem e_51_86 {ls : ab_L} {st : List Value} {w : ab_W} {v0 v1 : Value} (h1 : ab_recv ab_mt 43 [v0, v1] w.2 = true) (h8 : ab_w8 st = true) : ab_Run ab_mt 51 86 ls (v1 :: v0 :: st) w = ab_aft 43 51 86 ls st (ab_Cl 43 [v0, v1] w) := E_call2 rfl h1 h8
theorem e_51_89 {ls : ab_L} {st : List Value} {w : ab_W} {x : Int64} : ab_Run ab_mt 51 89 ls (.long x :: st) w = ab_Run ab_mt 51 90 ls (.int x.toInt32 :: st) w := E_l2i rfl
theorem e_51_90 {ls : ab_L} {st : List Value} {w : ab_W} {x y : Int32} : ab_Run ab_mt 51 90 ls (.int y :: .int x :: st) w = ab_Run ab_mt 51 91 ls (.int (x + y) :: st) w := E_ib (f := fun x y => x + y) rfl
theorem e_51_91 {ls : ab_L} {w : ab_W} {x : Int32} : ab_Run ab_mt 51 91 ls [.int x] w = some (.inl (some (.int x)), w) := E_reti rfl
theorem rv_51 {σ : ab_S} {t : Nat} {x0 : Int32} {x1 : Int32} : ab_recv ab_mt 51 [.ref t, .int x0, .int x1] σ = ab_isO 1 (σ t) := rfl
theorem e_52_0 {ls : ab_L} {st : List Value} {w : ab_W} (h : ab_isR (ls 0) = true) : ab_Run ab_mt 52 0 ls st w = ab_Run ab_mt 52 1 ls (ab_gv (ls 0) :: st) w := E_loadr (n := 1) rfl h
theorem e_52_1 {ls : ab_L} {st : List Value} {w : ab_W} : ab_Run ab_mt 52 1 ls st w = ab_Run ab_mt 52 2 ls (.long (lN 0) :: st) w := E_push (n := 1) rfl
theorem e_52_2 {ls : ab_L} {st : List Value} {w : ab_W} {a : Nat} {x : Int64} (h : ab_isF 1 7 (w.2 a) = true) : ab_Run ab_mt 52 2 ls (.long x :: .ref a :: st) w = ab_Run ab_mt 52 5 ls st (w.1, ab_up w.2 a (ab_sf 7 (.long x) (w.2 a))) := E_put rfl h rfl
theorem e_52_5 {ls : ab_L} {st : List Value} {w : ab_W} : ab_Run ab_mt 52 5 ls st w = ab_Run ab_mt 52 6 ls (.int (nI 0) :: st) w := E_push (n := 1) rfl
theorem e_52_6 {ls : ab_L} {st : List Value} {w : ab_W} {x : Int32} : ab_Run ab_mt 52 6 ls (.int x :: st) w = ab_Run ab_mt 52 7 (ab_l1 ls 1 (.int x)) st w := E_stori (n := 1) rfl
theorem e_52_7 {ls : ab_L} {st : List Value} {w : ab_W} (h : ab_isI (ls 1) = true) : ab_Run ab_mt 52 7 ls st w = ab_Run ab_mt 52 8 ls (ab_gv (ls 1) :: st) w := E_loadi (n := 1) rfl h
theorem e_52_8 {ls : ab_L} {st : List Value} {w : ab_W} (h : ab_isR (ls 0) = true) : ab_Run ab_mt 52 8 ls st w = ab_Run ab_mt 52 9 ls (ab_gv (ls 0) :: st) w := E_loadr (n := 1) rfl h
theorem e_52_9 {ls : ab_L} {st : List Value} {w : ab_W} {a : Nat} (h : ab_isF 1 0 (w.2 a) = true) : ab_Run ab_mt 52 9 ls (.ref a :: st) w = ab_Run ab_mt 52 12 ls (ab_fv 0 (w.2 a) :: st) w := E_get rfl h
theorem e_52_12 {ls : ab_L} {st : List Value} {w : ab_W} {a : Nat} (h : ab_isF 2 0 (w.2 a) = true) : ab_Run ab_mt 52 12 ls (.ref a :: st) w = ab_Run ab_mt 52 15 ls (ab_fv 0 (w.2 a) :: st) w := E_get rfl h
theorem e_52_15 {ls : ab_L} {st : List Value} {w : ab_W} {a : Nat} (h : ab_isF 3 3 (w.2 a) = true) : ab_Run ab_mt 52 15 ls (.ref a :: st) w = ab_Run ab_mt 52 18 ls (ab_fv 3 (w.2 a) :: st) w := E_get rfl h
theorem e_52_18 {ls : ab_L} {st : List Value} {w : ab_W} {x y : Int32} : ab_Run ab_mt 52 18 ls (.int y :: .int x :: st) w = if y ≤ x then ab_Run ab_mt 52 104 ls st w else ab_Run ab_mt 52 21 ls st w := E_ic_ge rfl
theorem e_52_21 {ls : ab_L} {st : List Value} {w : ab_W} (h : ab_isR (ls 0) = true) : ab_Run ab_mt 52 21 ls st w = ab_Run ab_mt 52 22 ls (ab_gv (ls 0) :: st) w := E_loadr (n := 1) rfl h
theorem e_52_22 {ls : ab_L} {st : List Value} {w : ab_W} (h : ab_isI (ls 1) = true) : ab_Run ab_mt 52 22 ls st w = ab_Run ab_mt 52 23 ls (ab_gv (ls 1) :: st) w := E_loadi (n := 1) rfl h
theorem e_52_23 {ls : ab_L} {st : List Value} {w : ab_W} {v0 v1 : Value} (h1 : ab_recv ab_mt 54 [v0, v1] w.2 = true) (h8 : ab_w8 st = true) : ab_Run ab_mt 52 23 ls (v1 :: v0 :: st) w = ab_aft 54 52 23 ls st (ab_Cl 54 [v0, v1] w) := E_call2 rfl h1 h8
theorem e_52_26 {ls : ab_L} {st : List Value} {w : ab_W} {x : Int32} : ab_Run ab_mt 52 26 ls (.int x :: st) w = ab_Run ab_mt 52 27 (ab_l1 ls 2 (.int x)) st w := E_stori (n := 1) rfl
theorem e_52_27 {ls : ab_L} {st : List Value} {w : ab_W} (h : ab_isI (ls 2) = true) : ab_Run ab_mt 52 27 ls st w = ab_Run ab_mt 52 28 ls (ab_gv (ls 2) :: st) w := E_loadi (n := 1) rfl h
theorem e_52_28 {ls : ab_L} {st : List Value} {w : ab_W} (h : ab_isR (ls 0) = true) : ab_Run ab_mt 52 28 ls st w = ab_Run ab_mt 52 29 ls (ab_gv (ls 0) :: st) w := E_loadr (n := 1) rfl h
theorem e_52_29 {ls : ab_L} {st : List Value} {w : ab_W} {a : Nat} (h : ab_isF 1 0 (w.2 a) = true) : ab_Run ab_mt 52 29 ls (.ref a :: st) w = ab_Run ab_mt 52 32 ls (ab_fv 0 (w.2 a) :: st) w := E_get rfl h
theorem e_52_32 {ls : ab_L} {st : List Value} {w : ab_W} {a : Nat} (h : ab_isF 2 0 (w.2 a) = true) : ab_Run ab_mt 52 32 ls (.ref a :: st) w = ab_Run ab_mt 52 35 ls (ab_fv 0 (w.2 a) :: st) w := E_get rfl h
theorem e_52_35 {ls : ab_L} {st : List Value} {w : ab_W} (h : ab_isI (ls 1) = true) : ab_Run ab_mt 52 35 ls st w = ab_Run ab_mt 52 36 ls (ab_gv (ls 1) :: st) w := E_loadi (n := 1) rfl h
theorem e_52_36 {ls : ab_L} {st : List Value} {w : ab_W} : ab_Run ab_mt 52 36 ls st w = ab_Run ab_mt 52 37 ls (.int (nI 0) :: st) w := E_push (n := 1) rfl
theorem e_52_37 {ls : ab_L} {st : List Value} {w : ab_W} {v0 v1 v2 : Value} (h1 : ab_recv ab_mt 75 [v0, v1, v2] w.2 = true) (h8 : ab_w8 st = true) : ab_Run ab_mt 52 37 ls (v2 :: v1 :: v0 :: st) w = ab_aft 75 52 37 ls st (ab_Cl 75 [v0, v1, v2] w) := E_call3 rfl h1 h8
theorem e_52_40 {ls : ab_L} {st : List Value} {w : ab_W} {x y : Int32} : ab_Run ab_mt 52 40 ls (.int y :: .int x :: st) w = ab_Run ab_mt 52 41 ls (.int (x + y) :: st) w := E_ib (f := fun x y => x + y) rfl
theorem e_52_41 {ls : ab_L} {st : List Value} {w : ab_W} (h : ab_isR (ls 0) = true) : ab_Run ab_mt 52 41 ls st w = ab_Run ab_mt 52 42 ls (ab_gv (ls 0) :: st) w := E_loadr (n := 1) rfl h
theorem e_52_42 {ls : ab_L} {st : List Value} {w : ab_W} {a : Nat} (h : ab_isF 1 6 (w.2 a) = true) : ab_Run ab_mt 52 42 ls (.ref a :: st) w = ab_Run ab_mt 52 45 ls (ab_fv 6 (w.2 a) :: st) w := E_get rfl h
theorem e_52_45 {ls : ab_L} {st : List Value} {w : ab_W} {x y : Int32} (h8 : ab_w8 st = true) : ab_Run ab_mt 52 45 ls (.int y :: .int x :: st) w = ab_Run ab_mt 52 48 ls (.int (if y < x then y else x) :: st) w := E_mini rfl h8
theorem e_52_48 {ls : ab_L} {st : List Value} {w : ab_W} {x : Int32} : ab_Run ab_mt 52 48 ls (.int x :: st) w = ab_Run ab_mt 52 49 (ab_l1 ls 3 (.int x)) st w := E_stori (n := 1) rfl
theorem e_52_49 {ls : ab_L} {st : List Value} {w : ab_W} (h : ab_isR (ls 0) = true) : ab_Run ab_mt 52 49 ls st w = ab_Run ab_mt 52 50 ls (ab_gv (ls 0) :: st) w := E_loadr (n := 1) rfl h
theorem e_52_50 {ls : ab_L} {st : List Value} {w : ab_W} (h : ab_isI (ls 2) = true) : ab_Run ab_mt 52 50 ls st w = ab_Run ab_mt 52 51 ls (ab_gv (ls 2) :: st) w := E_loadi (n := 1) rfl h
theorem e_52_51 {ls : ab_L} {st : List Value} {w : ab_W} (h : ab_isI (ls 3) = true) : ab_Run ab_mt 52 51 ls st w = ab_Run ab_mt 52 52 ls (ab_gv (ls 3) :: st) w := E_loadi (n := 1) rfl h
theorem e_52_52 {ls : ab_L} {st : List Value} {w : ab_W} (h : ab_isR (ls 0) = true) : ab_Run ab_mt 52 52 ls st w = ab_Run ab_mt 52 53 ls (ab_gv (ls 0) :: st) w := E_loadr (n := 1) rfl h
theorem e_52_53 {ls : ab_L} {st : List Value} {w : ab_W} {a : Nat} (h : ab_isF 1 0 (w.2 a) = true) : ab_Run ab_mt 52 53 ls (.ref a :: st) w = ab_Run ab_mt 52 56 ls (ab_fv 0 (w.2 a) :: st) w := E_get rfl h
theorem e_52_56 {ls : ab_L} {st : List Value} {w : ab_W} {a : Nat} (h : ab_isF 2 0 (w.2 a) = true) : ab_Run ab_mt 52 56 ls (.ref a :: st) w = ab_Run ab_mt 52 59 ls (ab_fv 0 (w.2 a) :: st) w := E_get rfl h
theorem e_52_59 {ls : ab_L} {st : List Value} {w : ab_W} (h : ab_isI (ls 1) = true) : ab_Run ab_mt 52 59 ls st w = ab_Run ab_mt 52 60 ls (ab_gv (ls 1) :: st) w := E_loadi (n := 1) rfl h
theorem e_52_60 {ls : ab_L} {st : List Value} {w : ab_W} : ab_Run ab_mt 52 60 ls st w = ab_Run ab_mt 52 61 ls (.int (nI 2) :: st) w := E_push (n := 1) rfl
theorem e_52_61 {ls : ab_L} {st : List Value} {w : ab_W} {v0 v1 v2 : Value} (h1 : ab_recv ab_mt 75 [v0, v1, v2] w.2 = true) (h8 : ab_w8 st = true) : ab_Run ab_mt 52 61 ls (v2 :: v1 :: v0 :: st) w = ab_aft 75 52 61 ls st (ab_Cl 75 [v0, v1, v2] w) := E_call3 rfl h1 h8
theorem e_52_64 {ls : ab_L} {st : List Value} {w : ab_W} {x : Int32} : ab_Run ab_mt 52 64 ls (.int x :: st) w = ab_Run ab_mt 52 65 ls (.long x.toInt64 :: st) w := E_i2l rfl
theorem e_52_65 {ls : ab_L} {st : List Value} {w : ab_W} : ab_Run ab_mt 52 65 ls st w = ab_Run ab_mt 52 68 ls (.long (lN 1000) :: st) w := E_push (n := 3) rfl
theorem e_52_68 {ls : ab_L} {st : List Value} {w : ab_W} {x y : Int64} : ab_Run ab_mt 52 68 ls (.long y :: .long x :: st) w = ab_Run ab_mt 52 69 ls (.long (x * y) :: st) w := E_lb (f := fun x y => x * y) rfl
theorem e_52_69 {ls : ab_L} {st : List Value} {w : ab_W} {v0 v1 v2 v3 : Value} (h1 : ab_recv ab_mt 53 [v0, v1, v2, v3] w.2 = true) (h8 : ab_w8 st = true) : ab_Run ab_mt 52 69 ls (v3 :: v2 :: v1 :: v0 :: st) w = ab_aft 53 52 69 ls st (ab_Cl 53 [v0, v1, v2, v3] w) := E_call4 rfl h1 h8
theorem e_52_72 {ls : ab_L} {st : List Value} {w : ab_W} (h : ab_isR (ls 0) = true) : ab_Run ab_mt 52 72 ls st w = ab_Run ab_mt 52 73 ls (ab_gv (ls 0) :: st) w := E_loadr (n := 1) rfl h
theorem e_52_73 {ls : ab_L} {st : List Value} {w : ab_W} {x : Nat} : ab_Run ab_mt 52 73 ls (.ref x :: st) w = ab_Run ab_mt 52 74 ls (.ref x :: .ref x :: st) w := E_dup_r rfl
theorem e_52_74 {ls : ab_L} {st : List Value} {w : ab_W} {a : Nat} (h : ab_isF 1 7 (w.2 a) = true) : ab_Run ab_mt 52 74 ls (.ref a :: st) w = ab_Run ab_mt 52 77 ls (ab_fv 7 (w.2 a) :: st) w := E_get rfl h
theorem e_52_77 {ls : ab_L} {st : List Value} {w : ab_W} (h : ab_isR (ls 0) = true) : ab_Run ab_mt 52 77 ls st w = ab_Run ab_mt 52 78 ls (ab_gv (ls 0) :: st) w := E_loadr (n := 1) rfl h
theorem e_52_78 {ls : ab_L} {st : List Value} {w : ab_W} {a : Nat} (h : ab_isF 1 0 (w.2 a) = true) : ab_Run ab_mt 52 78 ls (.ref a :: st) w = ab_Run ab_mt 52 81 ls (ab_fv 0 (w.2 a) :: st) w := E_get rfl h
theorem e_52_81 {ls : ab_L} {st : List Value} {w : ab_W} {a : Nat} (h : ab_isF 2 0 (w.2 a) = true) : ab_Run ab_mt 52 81 ls (.ref a :: st) w = ab_Run ab_mt 52 84 ls (ab_fv 0 (w.2 a) :: st) w := E_get rfl h
theorem e_52_84 {ls : ab_L} {st : List Value} {w : ab_W} (h : ab_isI (ls 1) = true) : ab_Run ab_mt 52 84 ls st w = ab_Run ab_mt 52 85 ls (ab_gv (ls 1) :: st) w := E_loadi (n := 1) rfl h
theorem e_52_85 {ls : ab_L} {st : List Value} {w : ab_W} : ab_Run ab_mt 52 85 ls st w = ab_Run ab_mt 52 86 ls (.int (nI 3) :: st) w := E_push (n := 1) rfl
theorem e_52_86 {ls : ab_L} {st : List Value} {w : ab_W} {v0 v1 v2 : Value} (h1 : ab_recv ab_mt 75 [v0, v1, v2] w.2 = true) (h8 : ab_w8 st = true) : ab_Run ab_mt 52 86 ls (v2 :: v1 :: v0 :: st) w = ab_aft 75 52 86 ls st (ab_Cl 75 [v0, v1, v2] w) := E_call3 rfl h1 h8
theorem e_52_89 {ls : ab_L} {st : List Value} {w : ab_W} {x : Int32} : ab_Run ab_mt 52 89 ls (.int x :: st) w = ab_Run ab_mt 52 90 ls (.long x.toInt64 :: st) w := E_i2l rfl
theorem e_52_90 {ls : ab_L} {st : List Value} {w : ab_W} : ab_Run ab_mt 52 90 ls st w = ab_Run ab_mt 52 93 ls (.long (lN 1000) :: st) w := E_push (n := 3) rfl
theorem e_52_93 {ls : ab_L} {st : List Value} {w : ab_W} {x y : Int64} : ab_Run ab_mt 52 93 ls (.long y :: .long x :: st) w = ab_Run ab_mt 52 94 ls (.long (x * y) :: st) w := E_lb (f := fun x y => x * y) rfl
theorem e_52_94 {ls : ab_L} {st : List Value} {w : ab_W} {x y : Int64} : ab_Run ab_mt 52 94 ls (.long y :: .long x :: st) w = ab_Run ab_mt 52 95 ls (.long (x + y) :: st) w := E_lb (f := fun x y => x + y) rfl
theorem e_52_95 {ls : ab_L} {st : List Value} {w : ab_W} {a : Nat} {x : Int64} (h : ab_isF 1 7 (w.2 a) = true) : ab_Run ab_mt 52 95 ls (.long x :: .ref a :: st) w = ab_Run ab_mt 52 98 ls st (w.1, ab_up w.2 a (ab_sf 7 (.long x) (w.2 a))) := E_put rfl h rfl
theorem e_52_98 {ls : ab_L} {st : List Value} {w : ab_W} (h : ab_isI (ls 1) = true) : ab_Run ab_mt 52 98 ls st w = ab_Run ab_mt 52 101 (ab_l1 ls 1 (.int (ab_gi (ls 1) + (nI 1)))) st w := E_iinc rfl h
theorem e_52_101 {ls : ab_L} {st : List Value} {w : ab_W} : ab_Run ab_mt 52 101 ls st w = ab_Run ab_mt 52 7 ls st w := E_goto rfl
theorem e_52_104 {ls : ab_L} {w : ab_W} : ab_Run ab_mt 52 104 ls [] w = some (.inl none, w) := E_ret0 rfl
theorem rv_52 {σ : ab_S} {t : Nat} : ab_recv ab_mt 52 [.ref t] σ = ab_isO 1 (σ t) := rfl
theorem e_53_0 {ls : ab_L} {st : List Value} {w : ab_W} : ab_Run ab_mt 53 0 ls st w = ab_Run ab_mt 53 1 ls (.long (lN 0) :: st) w := E_push (n := 1) rfl
theorem e_53_1 {ls : ab_L} {st : List Value} {w : ab_W} {x : Int64} : ab_Run ab_mt 53 1 ls (.long x :: st) w = ab_Run ab_mt 53 3 (ab_l2 ls 5 (.long x)) st w := E_storl (n := 2) rfl
theorem e_53_3 {ls : ab_L} {st : List Value} {w : ab_W} (h : ab_isI (ls 1) = true) : ab_Run ab_mt 53 3 ls st w = ab_Run ab_mt 53 4 ls (ab_gv (ls 1) :: st) w := E_loadi (n := 1) rfl h
theorem e_53_4 {ls : ab_L} {st : List Value} {w : ab_W} {x : Int32} : ab_Run ab_mt 53 4 ls (.int x :: st) w = ab_Run ab_mt 53 6 (ab_l1 ls 7 (.int x)) st w := E_stori (n := 2) rfl
theorem e_53_6 {ls : ab_L} {st : List Value} {w : ab_W} (h : ab_isI (ls 7) = true) : ab_Run ab_mt 53 6 ls st w = ab_Run ab_mt 53 8 ls (ab_gv (ls 7) :: st) w := E_loadi (n := 2) rfl h
theorem e_53_8 {ls : ab_L} {st : List Value} {w : ab_W} (h : ab_isI (ls 2) = true) : ab_Run ab_mt 53 8 ls st w = ab_Run ab_mt 53 9 ls (ab_gv (ls 2) :: st) w := E_loadi (n := 1) rfl h
theorem e_53_9 {ls : ab_L} {st : List Value} {w : ab_W} {x y : Int32} : ab_Run ab_mt 53 9 ls (.int y :: .int x :: st) w = if y ≤ x then ab_Run ab_mt 53 29 ls st w else ab_Run ab_mt 53 12 ls st w := E_ic_ge rfl
theorem e_53_12 {ls : ab_L} {st : List Value} {w : ab_W} (h : ab_isL (ls 5) = true) (h2 : (ls 6).isNone = true) : ab_Run ab_mt 53 12 ls st w = ab_Run ab_mt 53 14 ls (ab_gv (ls 5) :: st) w := E_loadl (n := 2) rfl h h2
theorem e_53_14 {ls : ab_L} {st : List Value} {w : ab_W} (h : ab_isR (ls 0) = true) : ab_Run ab_mt 53 14 ls st w = ab_Run ab_mt 53 15 ls (ab_gv (ls 0) :: st) w := E_loadr (n := 1) rfl h
theorem e_53_15 {ls : ab_L} {st : List Value} {w : ab_W} (h : ab_isI (ls 7) = true) : ab_Run ab_mt 53 15 ls st w = ab_Run ab_mt 53 17 ls (ab_gv (ls 7) :: st) w := E_loadi (n := 2) rfl h
theorem e_53_17 {ls : ab_L} {st : List Value} {w : ab_W} {v0 v1 : Value} (h1 : ab_recv ab_mt 58 [v0, v1] w.2 = true) (h8 : ab_w8 st = true) : ab_Run ab_mt 53 17 ls (v1 :: v0 :: st) w = ab_aft 58 53 17 ls st (ab_Cl 58 [v0, v1] w) := E_call2 rfl h1 h8
theorem e_53_20 {ls : ab_L} {st : List Value} {w : ab_W} {x y : Int64} : ab_Run ab_mt 53 20 ls (.long y :: .long x :: st) w = ab_Run ab_mt 53 21 ls (.long (x + y) :: st) w := E_lb (f := fun x y => x + y) rfl
theorem e_53_21 {ls : ab_L} {st : List Value} {w : ab_W} {x : Int64} : ab_Run ab_mt 53 21 ls (.long x :: st) w = ab_Run ab_mt 53 23 (ab_l2 ls 5 (.long x)) st w := E_storl (n := 2) rfl
theorem e_53_23 {ls : ab_L} {st : List Value} {w : ab_W} (h : ab_isI (ls 7) = true) : ab_Run ab_mt 53 23 ls st w = ab_Run ab_mt 53 26 (ab_l1 ls 7 (.int (ab_gi (ls 7) + (nI 1)))) st w := E_iinc rfl h
theorem e_53_26 {ls : ab_L} {st : List Value} {w : ab_W} : ab_Run ab_mt 53 26 ls st w = ab_Run ab_mt 53 6 ls st w := E_goto rfl
theorem e_53_29 {ls : ab_L} {st : List Value} {w : ab_W} (h : ab_isL (ls 3) = true) (h2 : (ls 4).isNone = true) : ab_Run ab_mt 53 29 ls st w = ab_Run ab_mt 53 30 ls (ab_gv (ls 3) :: st) w := E_loadl (n := 1) rfl h h2
theorem e_53_30 {ls : ab_L} {st : List Value} {w : ab_W} : ab_Run ab_mt 53 30 ls st w = ab_Run ab_mt 53 31 ls (.long (lN 0) :: st) w := E_push (n := 1) rfl
theorem e_53_31 {ls : ab_L} {st : List Value} {w : ab_W} {x y : Int64} : ab_Run ab_mt 53 31 ls (.long y :: .long x :: st) w = ab_Run ab_mt 53 32 ls (.int (lg_cmp x y) :: st) w := E_lcmp rfl
theorem e_53_32 {ls : ab_L} {st : List Value} {w : ab_W} {x : Int32} : ab_Run ab_mt 53 32 ls (.int x :: st) w = if x ≤ 0 then ab_Run ab_mt 53 39 ls st w else ab_Run ab_mt 53 35 ls st w := E_if_le rfl
theorem e_53_35 {ls : ab_L} {st : List Value} {w : ab_W} (h : ab_isL (ls 3) = true) (h2 : (ls 4).isNone = true) : ab_Run ab_mt 53 35 ls st w = ab_Run ab_mt 53 36 ls (ab_gv (ls 3) :: st) w := E_loadl (n := 1) rfl h h2
theorem e_53_36 {ls : ab_L} {st : List Value} {w : ab_W} : ab_Run ab_mt 53 36 ls st w = ab_Run ab_mt 53 41 ls st w := E_goto rfl
theorem e_53_39 {ls : ab_L} {st : List Value} {w : ab_W} (h : ab_isL (ls 5) = true) (h2 : (ls 6).isNone = true) : ab_Run ab_mt 53 39 ls st w = ab_Run ab_mt 53 41 ls (ab_gv (ls 5) :: st) w := E_loadl (n := 2) rfl h h2
theorem e_53_41 {ls : ab_L} {st : List Value} {w : ab_W} {x : Int64} : ab_Run ab_mt 53 41 ls (.long x :: st) w = ab_Run ab_mt 53 43 (ab_l2 ls 7 (.long x)) st w := E_storl (n := 2) rfl
theorem e_53_43 {ls : ab_L} {st : List Value} {w : ab_W} : ab_Run ab_mt 53 43 ls st w = ab_Run ab_mt 53 44 ls (.long (lN 0) :: st) w := E_push (n := 1) rfl
theorem e_53_44 {ls : ab_L} {st : List Value} {w : ab_W} {x : Int64} : ab_Run ab_mt 53 44 ls (.long x :: st) w = ab_Run ab_mt 53 46 (ab_l2 ls 9 (.long x)) st w := E_storl (n := 2) rfl
theorem e_53_46 {ls : ab_L} {st : List Value} {w : ab_W} : ab_Run ab_mt 53 46 ls st w = ab_Run ab_mt 53 47 ls (.long (lN 0) :: st) w := E_push (n := 1) rfl
theorem e_53_47 {ls : ab_L} {st : List Value} {w : ab_W} {x : Int64} : ab_Run ab_mt 53 47 ls (.long x :: st) w = ab_Run ab_mt 53 49 (ab_l2 ls 11 (.long x)) st w := E_storl (n := 2) rfl
theorem e_53_49 {ls : ab_L} {st : List Value} {w : ab_W} (h : ab_isI (ls 1) = true) : ab_Run ab_mt 53 49 ls st w = ab_Run ab_mt 53 50 ls (ab_gv (ls 1) :: st) w := E_loadi (n := 1) rfl h
theorem e_53_50 {ls : ab_L} {st : List Value} {w : ab_W} {x : Int32} : ab_Run ab_mt 53 50 ls (.int x :: st) w = ab_Run ab_mt 53 52 (ab_l1 ls 13 (.int x)) st w := E_stori (n := 2) rfl
theorem e_53_52 {ls : ab_L} {st : List Value} {w : ab_W} (h : ab_isI (ls 13) = true) : ab_Run ab_mt 53 52 ls st w = ab_Run ab_mt 53 54 ls (ab_gv (ls 13) :: st) w := E_loadi (n := 2) rfl h
theorem e_53_54 {ls : ab_L} {st : List Value} {w : ab_W} (h : ab_isI (ls 2) = true) : ab_Run ab_mt 53 54 ls st w = ab_Run ab_mt 53 55 ls (ab_gv (ls 2) :: st) w := E_loadi (n := 1) rfl h
theorem e_53_55 {ls : ab_L} {st : List Value} {w : ab_W} {x y : Int32} : ab_Run ab_mt 53 55 ls (.int y :: .int x :: st) w = if y ≤ x then ab_Run ab_mt 53 117 ls st w else ab_Run ab_mt 53 58 ls st w := E_ic_ge rfl
theorem e_53_58 {ls : ab_L} {st : List Value} {w : ab_W} (h : ab_isL (ls 9) = true) (h2 : (ls 10).isNone = true) : ab_Run ab_mt 53 58 ls st w = ab_Run ab_mt 53 60 ls (ab_gv (ls 9) :: st) w := E_loadl (n := 2) rfl h h2
theorem e_53_60 {ls : ab_L} {st : List Value} {w : ab_W} (h : ab_isR (ls 0) = true) : ab_Run ab_mt 53 60 ls st w = ab_Run ab_mt 53 61 ls (ab_gv (ls 0) :: st) w := E_loadr (n := 1) rfl h
theorem e_53_61 {ls : ab_L} {st : List Value} {w : ab_W} (h : ab_isI (ls 13) = true) : ab_Run ab_mt 53 61 ls st w = ab_Run ab_mt 53 63 ls (ab_gv (ls 13) :: st) w := E_loadi (n := 2) rfl h
theorem e_53_63 {ls : ab_L} {st : List Value} {w : ab_W} {v0 v1 : Value} (h1 : ab_recv ab_mt 58 [v0, v1] w.2 = true) (h8 : ab_w8 st = true) : ab_Run ab_mt 53 63 ls (v1 :: v0 :: st) w = ab_aft 58 53 63 ls st (ab_Cl 58 [v0, v1] w) := E_call2 rfl h1 h8
theorem e_53_66 {ls : ab_L} {st : List Value} {w : ab_W} {x y : Int64} : ab_Run ab_mt 53 66 ls (.long y :: .long x :: st) w = ab_Run ab_mt 53 67 ls (.long (x + y) :: st) w := E_lb (f := fun x y => x + y) rfl
theorem e_53_67 {ls : ab_L} {st : List Value} {w : ab_W} {x : Int64} : ab_Run ab_mt 53 67 ls (.long x :: st) w = ab_Run ab_mt 53 69 (ab_l2 ls 9 (.long x)) st w := E_storl (n := 2) rfl
theorem e_53_69 {ls : ab_L} {st : List Value} {w : ab_W} (h : ab_isL (ls 7) = true) (h2 : (ls 8).isNone = true) : ab_Run ab_mt 53 69 ls st w = ab_Run ab_mt 53 71 ls (ab_gv (ls 7) :: st) w := E_loadl (n := 2) rfl h h2
theorem e_53_71 {ls : ab_L} {st : List Value} {w : ab_W} (h : ab_isL (ls 9) = true) (h2 : (ls 10).isNone = true) : ab_Run ab_mt 53 71 ls st w = ab_Run ab_mt 53 73 ls (ab_gv (ls 9) :: st) w := E_loadl (n := 2) rfl h h2
theorem e_53_73 {ls : ab_L} {st : List Value} {w : ab_W} {x y : Int64} : ab_Run ab_mt 53 73 ls (.long y :: .long x :: st) w = ab_Run ab_mt 53 74 ls (.long (x * y) :: st) w := E_lb (f := fun x y => x * y) rfl
theorem e_53_74 {ls : ab_L} {st : List Value} {w : ab_W} (h : ab_isL (ls 5) = true) (h2 : (ls 6).isNone = true) : ab_Run ab_mt 53 74 ls st w = ab_Run ab_mt 53 76 ls (ab_gv (ls 5) :: st) w := E_loadl (n := 2) rfl h h2
theorem e_53_76 {ls : ab_L} {st : List Value} {w : ab_W} {v0 v1 : Value} (h1 : ab_recv ab_mt 43 [v0, v1] w.2 = true) (h8 : ab_w8 st = true) : ab_Run ab_mt 53 76 ls (v1 :: v0 :: st) w = ab_aft 43 53 76 ls st (ab_Cl 43 [v0, v1] w) := E_call2 rfl h1 h8
theorem e_53_79 {ls : ab_L} {st : List Value} {w : ab_W} {x : Int64} : ab_Run ab_mt 53 79 ls (.long x :: st) w = ab_Run ab_mt 53 81 (ab_l2 ls 14 (.long x)) st w := E_storl (n := 2) rfl
theorem e_53_81 {ls : ab_L} {st : List Value} {w : ab_W} (h : ab_isR (ls 0) = true) : ab_Run ab_mt 53 81 ls st w = ab_Run ab_mt 53 82 ls (ab_gv (ls 0) :: st) w := E_loadr (n := 1) rfl h
theorem e_53_82 {ls : ab_L} {st : List Value} {w : ab_W} {a : Nat} (h : ab_isF 1 4 (w.2 a) = true) : ab_Run ab_mt 53 82 ls (.ref a :: st) w = ab_Run ab_mt 53 85 ls (ab_fv 4 (w.2 a) :: st) w := E_get rfl h
theorem e_53_85 {ls : ab_L} {st : List Value} {w : ab_W} (h : ab_isI (ls 13) = true) : ab_Run ab_mt 53 85 ls st w = ab_Run ab_mt 53 87 ls (ab_gv (ls 13) :: st) w := E_loadi (n := 2) rfl h
theorem e_53_87 {ls : ab_L} {st : List Value} {w : ab_W} (h : ab_isR (ls 0) = true) : ab_Run ab_mt 53 87 ls st w = ab_Run ab_mt 53 88 ls (ab_gv (ls 0) :: st) w := E_loadr (n := 1) rfl h
theorem e_53_88 {ls : ab_L} {st : List Value} {w : ab_W} {a : Nat} (h : ab_isF 1 7 (w.2 a) = true) : ab_Run ab_mt 53 88 ls (.ref a :: st) w = ab_Run ab_mt 53 91 ls (ab_fv 7 (w.2 a) :: st) w := E_get rfl h
theorem e_53_91 {ls : ab_L} {st : List Value} {w : ab_W} (h : ab_isL (ls 11) = true) (h2 : (ls 12).isNone = true) : ab_Run ab_mt 53 91 ls st w = ab_Run ab_mt 53 93 ls (ab_gv (ls 11) :: st) w := E_loadl (n := 2) rfl h h2
theorem e_53_93 {ls : ab_L} {st : List Value} {w : ab_W} {x y : Int64} : ab_Run ab_mt 53 93 ls (.long y :: .long x :: st) w = ab_Run ab_mt 53 94 ls (.long (x + y) :: st) w := E_lb (f := fun x y => x + y) rfl
theorem e_53_94 {ls : ab_L} {st : List Value} {w : ab_W} {a : Nat} {i : Int32} {x : Int64} (h : ab_inL i (w.2 a) = true) : ab_Run ab_mt 53 94 ls (.long x :: .int i :: .ref a :: st) w = ab_Run ab_mt 53 95 ls st (w.1, ab_up w.2 a (ab_sL i.toNatClampNeg x (w.2 a))) := E_last rfl h
theorem e_53_95 {ls : ab_L} {st : List Value} {w : ab_W} (h : ab_isR (ls 0) = true) : ab_Run ab_mt 53 95 ls st w = ab_Run ab_mt 53 96 ls (ab_gv (ls 0) :: st) w := E_loadr (n := 1) rfl h
theorem e_53_96 {ls : ab_L} {st : List Value} {w : ab_W} {a : Nat} (h : ab_isF 1 5 (w.2 a) = true) : ab_Run ab_mt 53 96 ls (.ref a :: st) w = ab_Run ab_mt 53 99 ls (ab_fv 5 (w.2 a) :: st) w := E_get rfl h
theorem e_53_99 {ls : ab_L} {st : List Value} {w : ab_W} (h : ab_isI (ls 13) = true) : ab_Run ab_mt 53 99 ls st w = ab_Run ab_mt 53 101 ls (ab_gv (ls 13) :: st) w := E_loadi (n := 2) rfl h
theorem e_53_101 {ls : ab_L} {st : List Value} {w : ab_W} (h : ab_isL (ls 14) = true) (h2 : (ls 15).isNone = true) : ab_Run ab_mt 53 101 ls st w = ab_Run ab_mt 53 103 ls (ab_gv (ls 14) :: st) w := E_loadl (n := 2) rfl h h2
theorem e_53_103 {ls : ab_L} {st : List Value} {w : ab_W} (h : ab_isL (ls 11) = true) (h2 : (ls 12).isNone = true) : ab_Run ab_mt 53 103 ls st w = ab_Run ab_mt 53 105 ls (ab_gv (ls 11) :: st) w := E_loadl (n := 2) rfl h h2
theorem e_53_105 {ls : ab_L} {st : List Value} {w : ab_W} {x y : Int64} : ab_Run ab_mt 53 105 ls (.long y :: .long x :: st) w = ab_Run ab_mt 53 106 ls (.long (x - y) :: st) w := E_lb (f := fun x y => x - y) rfl
theorem e_53_106 {ls : ab_L} {st : List Value} {w : ab_W} {a : Nat} {i : Int32} {x : Int64} (h : ab_inL i (w.2 a) = true) : ab_Run ab_mt 53 106 ls (.long x :: .int i :: .ref a :: st) w = ab_Run ab_mt 53 107 ls st (w.1, ab_up w.2 a (ab_sL i.toNatClampNeg x (w.2 a))) := E_last rfl h
theorem e_53_107 {ls : ab_L} {st : List Value} {w : ab_W} (h : ab_isL (ls 14) = true) (h2 : (ls 15).isNone = true) : ab_Run ab_mt 53 107 ls st w = ab_Run ab_mt 53 109 ls (ab_gv (ls 14) :: st) w := E_loadl (n := 2) rfl h h2
theorem e_53_109 {ls : ab_L} {st : List Value} {w : ab_W} {x : Int64} : ab_Run ab_mt 53 109 ls (.long x :: st) w = ab_Run ab_mt 53 111 (ab_l2 ls 11 (.long x)) st w := E_storl (n := 2) rfl
theorem e_53_111 {ls : ab_L} {st : List Value} {w : ab_W} (h : ab_isI (ls 13) = true) : ab_Run ab_mt 53 111 ls st w = ab_Run ab_mt 53 114 (ab_l1 ls 13 (.int (ab_gi (ls 13) + (nI 1)))) st w := E_iinc rfl h
theorem e_53_114 {ls : ab_L} {st : List Value} {w : ab_W} : ab_Run ab_mt 53 114 ls st w = ab_Run ab_mt 53 52 ls st w := E_goto rfl
theorem e_53_117 {ls : ab_L} {st : List Value} {w : ab_W} (h : ab_isR (ls 0) = true) : ab_Run ab_mt 53 117 ls st w = ab_Run ab_mt 53 118 ls (ab_gv (ls 0) :: st) w := E_loadr (n := 1) rfl h
theorem e_53_118 {ls : ab_L} {st : List Value} {w : ab_W} {x : Nat} : ab_Run ab_mt 53 118 ls (.ref x :: st) w = ab_Run ab_mt 53 119 ls (.ref x :: .ref x :: st) w := E_dup_r rfl
theorem e_53_119 {ls : ab_L} {st : List Value} {w : ab_W} {a : Nat} (h : ab_isF 1 7 (w.2 a) = true) : ab_Run ab_mt 53 119 ls (.ref a :: st) w = ab_Run ab_mt 53 122 ls (ab_fv 7 (w.2 a) :: st) w := E_get rfl h
theorem e_53_122 {ls : ab_L} {st : List Value} {w : ab_W} (h : ab_isL (ls 7) = true) (h2 : (ls 8).isNone = true) : ab_Run ab_mt 53 122 ls st w = ab_Run ab_mt 53 124 ls (ab_gv (ls 7) :: st) w := E_loadl (n := 2) rfl h h2
theorem e_53_124 {ls : ab_L} {st : List Value} {w : ab_W} {x y : Int64} : ab_Run ab_mt 53 124 ls (.long y :: .long x :: st) w = ab_Run ab_mt 53 125 ls (.long (x + y) :: st) w := E_lb (f := fun x y => x + y) rfl
theorem e_53_125 {ls : ab_L} {st : List Value} {w : ab_W} {a : Nat} {x : Int64} (h : ab_isF 1 7 (w.2 a) = true) : ab_Run ab_mt 53 125 ls (.long x :: .ref a :: st) w = ab_Run ab_mt 53 128 ls st (w.1, ab_up w.2 a (ab_sf 7 (.long x) (w.2 a))) := E_put rfl h rfl
theorem e_53_128 {ls : ab_L} {w : ab_W} : ab_Run ab_mt 53 128 ls [] w = some (.inl none, w) := E_ret0 rfl
theorem rv_53 {σ : ab_S} {t : Nat} {x0 : Int32} {x1 : Int32} {x2 : Int64} : ab_recv ab_mt 53 [.ref t, .int x0, .int x1, .long x2] σ = ab_isO 1 (σ t) := rfl
theorem e_54_0 {ls : ab_L} {st : List Value} {w : ab_W} (h : ab_isI (ls 1) = true) : ab_Run ab_mt 54 0 ls st w = ab_Run ab_mt 54 1 ls (ab_gv (ls 1) :: st) w := E_loadi (n := 1) rfl h
theorem e_54_1 {ls : ab_L} {st : List Value} {w : ab_W} {x : Int32} : ab_Run ab_mt 54 1 ls (.int x :: st) w = if x < 0 then ab_Run ab_mt 54 19 ls st w else ab_Run ab_mt 54 4 ls st w := E_if_lt rfl
theorem e_54_4 {ls : ab_L} {st : List Value} {w : ab_W} (h : ab_isI (ls 1) = true) : ab_Run ab_mt 54 4 ls st w = ab_Run ab_mt 54 5 ls (ab_gv (ls 1) :: st) w := E_loadi (n := 1) rfl h
theorem e_54_5 {ls : ab_L} {st : List Value} {w : ab_W} : ab_Run ab_mt 54 5 ls st w = ab_Run ab_mt 54 7 ls (.int (nI 24) :: st) w := E_push (n := 2) rfl
theorem e_54_7 {ls : ab_L} {st : List Value} {w : ab_W} {x y : Int32} : ab_Run ab_mt 54 7 ls (.int y :: .int x :: st) w = if y ≤ x then ab_Run ab_mt 54 19 ls st w else ab_Run ab_mt 54 10 ls st w := E_ic_ge rfl
theorem e_54_10 {ls : ab_L} {st : List Value} {w : ab_W} (h : ab_isR (ls 0) = true) : ab_Run ab_mt 54 10 ls st w = ab_Run ab_mt 54 11 ls (ab_gv (ls 0) :: st) w := E_loadr (n := 1) rfl h
theorem e_54_11 {ls : ab_L} {st : List Value} {w : ab_W} {a : Nat} (h : ab_isF 1 1 (w.2 a) = true) : ab_Run ab_mt 54 11 ls (.ref a :: st) w = ab_Run ab_mt 54 14 ls (ab_fv 1 (w.2 a) :: st) w := E_get rfl h
theorem e_54_14 {ls : ab_L} {st : List Value} {w : ab_W} (h : ab_isI (ls 1) = true) : ab_Run ab_mt 54 14 ls st w = ab_Run ab_mt 54 15 ls (ab_gv (ls 1) :: st) w := E_loadi (n := 1) rfl h
theorem e_54_15 {ls : ab_L} {st : List Value} {w : ab_W} {a : Nat} {i : Int32} (h : ab_inI i (w.2 a) = true) : ab_Run ab_mt 54 15 ls (.int i :: .ref a :: st) w = ab_Run ab_mt 54 16 ls (.int (ab_aI i.toNatClampNeg (w.2 a)) :: st) w := E_iald rfl h
theorem e_54_16 {ls : ab_L} {st : List Value} {w : ab_W} : ab_Run ab_mt 54 16 ls st w = ab_Run ab_mt 54 20 ls st w := E_goto rfl
theorem e_54_19 {ls : ab_L} {st : List Value} {w : ab_W} : ab_Run ab_mt 54 19 ls st w = ab_Run ab_mt 54 20 ls (.int (nI 0) :: st) w := E_push (n := 1) rfl
theorem e_54_20 {ls : ab_L} {w : ab_W} {x : Int32} : ab_Run ab_mt 54 20 ls [.int x] w = some (.inl (some (.int x)), w) := E_reti rfl
theorem rv_54 {σ : ab_S} {t : Nat} {x0 : Int32} : ab_recv ab_mt 54 [.ref t, .int x0] σ = ab_isO 1 (σ t) := rfl
theorem e_55_0 {ls : ab_L} {st : List Value} {w : ab_W} (h : ab_isI (ls 1) = true) : ab_Run ab_mt 55 0 ls st w = ab_Run ab_mt 55 1 ls (ab_gv (ls 1) :: st) w := E_loadi (n := 1) rfl h
theorem e_55_1 {ls : ab_L} {st : List Value} {w : ab_W} {x : Int32} : ab_Run ab_mt 55 1 ls (.int x :: st) w = if x < 0 then ab_Run ab_mt 55 21 ls st w else ab_Run ab_mt 55 4 ls st w := E_if_lt rfl
theorem e_55_4 {ls : ab_L} {st : List Value} {w : ab_W} (h : ab_isI (ls 1) = true) : ab_Run ab_mt 55 4 ls st w = ab_Run ab_mt 55 5 ls (ab_gv (ls 1) :: st) w := E_loadi (n := 1) rfl h
theorem e_55_5 {ls : ab_L} {st : List Value} {w : ab_W} (h : ab_isR (ls 0) = true) : ab_Run ab_mt 55 5 ls st w = ab_Run ab_mt 55 6 ls (ab_gv (ls 0) :: st) w := E_loadr (n := 1) rfl h
theorem e_55_6 {ls : ab_L} {st : List Value} {w : ab_W} {a : Nat} (h : ab_isF 1 6 (w.2 a) = true) : ab_Run ab_mt 55 6 ls (.ref a :: st) w = ab_Run ab_mt 55 9 ls (ab_fv 6 (w.2 a) :: st) w := E_get rfl h
theorem e_55_9 {ls : ab_L} {st : List Value} {w : ab_W} {x y : Int32} : ab_Run ab_mt 55 9 ls (.int y :: .int x :: st) w = if y ≤ x then ab_Run ab_mt 55 21 ls st w else ab_Run ab_mt 55 12 ls st w := E_ic_ge rfl
theorem e_55_12 {ls : ab_L} {st : List Value} {w : ab_W} (h : ab_isR (ls 0) = true) : ab_Run ab_mt 55 12 ls st w = ab_Run ab_mt 55 13 ls (ab_gv (ls 0) :: st) w := E_loadr (n := 1) rfl h
theorem e_55_13 {ls : ab_L} {st : List Value} {w : ab_W} {a : Nat} (h : ab_isF 1 2 (w.2 a) = true) : ab_Run ab_mt 55 13 ls (.ref a :: st) w = ab_Run ab_mt 55 16 ls (ab_fv 2 (w.2 a) :: st) w := E_get rfl h
theorem e_55_16 {ls : ab_L} {st : List Value} {w : ab_W} (h : ab_isI (ls 1) = true) : ab_Run ab_mt 55 16 ls st w = ab_Run ab_mt 55 17 ls (ab_gv (ls 1) :: st) w := E_loadi (n := 1) rfl h
theorem e_55_17 {ls : ab_L} {st : List Value} {w : ab_W} {a : Nat} {i : Int32} (h : ab_inI i (w.2 a) = true) : ab_Run ab_mt 55 17 ls (.int i :: .ref a :: st) w = ab_Run ab_mt 55 18 ls (.int (ab_aI i.toNatClampNeg (w.2 a)) :: st) w := E_iald rfl h
theorem e_55_18 {ls : ab_L} {st : List Value} {w : ab_W} : ab_Run ab_mt 55 18 ls st w = ab_Run ab_mt 55 22 ls st w := E_goto rfl
theorem e_55_21 {ls : ab_L} {st : List Value} {w : ab_W} : ab_Run ab_mt 55 21 ls st w = ab_Run ab_mt 55 22 ls (.int (nI 0) :: st) w := E_push (n := 1) rfl
theorem e_55_22 {ls : ab_L} {w : ab_W} {x : Int32} : ab_Run ab_mt 55 22 ls [.int x] w = some (.inl (some (.int x)), w) := E_reti rfl
theorem rv_55 {σ : ab_S} {t : Nat} {x0 : Int32} : ab_recv ab_mt 55 [.ref t, .int x0] σ = ab_isO 1 (σ t) := rfl
theorem e_56_0 {ls : ab_L} {st : List Value} {w : ab_W} (h : ab_isI (ls 1) = true) : ab_Run ab_mt 56 0 ls st w = ab_Run ab_mt 56 1 ls (ab_gv (ls 1) :: st) w := E_loadi (n := 1) rfl h
theorem e_56_1 {ls : ab_L} {st : List Value} {w : ab_W} (h : ab_isR (ls 0) = true) : ab_Run ab_mt 56 1 ls st w = ab_Run ab_mt 56 2 ls (ab_gv (ls 0) :: st) w := E_loadr (n := 1) rfl h
theorem e_56_2 {ls : ab_L} {st : List Value} {w : ab_W} (h : ab_isR (ls 0) = true) : ab_Run ab_mt 56 2 ls st w = ab_Run ab_mt 56 3 ls (ab_gv (ls 0) :: st) w := E_loadr (n := 1) rfl h
theorem e_56_3 {ls : ab_L} {st : List Value} {w : ab_W} (h : ab_isI (ls 1) = true) : ab_Run ab_mt 56 3 ls st w = ab_Run ab_mt 56 4 ls (ab_gv (ls 1) :: st) w := E_loadi (n := 1) rfl h
theorem e_56_4 {ls : ab_L} {st : List Value} {w : ab_W} {v0 v1 : Value} (h1 : ab_recv ab_mt 55 [v0, v1] w.2 = true) (h8 : ab_w8 st = true) : ab_Run ab_mt 56 4 ls (v1 :: v0 :: st) w = ab_aft 55 56 4 ls st (ab_Cl 55 [v0, v1] w) := E_call2 rfl h1 h8
theorem e_56_7 {ls : ab_L} {st : List Value} {w : ab_W} {v0 v1 : Value} (h1 : ab_recv ab_mt 54 [v0, v1] w.2 = true) (h8 : ab_w8 st = true) : ab_Run ab_mt 56 7 ls (v1 :: v0 :: st) w = ab_aft 54 56 7 ls st (ab_Cl 54 [v0, v1] w) := E_call2 rfl h1 h8
theorem e_56_10 {ls : ab_L} {st : List Value} {w : ab_W} {x y : Int32} : ab_Run ab_mt 56 10 ls (.int y :: .int x :: st) w = ab_Run ab_mt 56 11 ls (.int (x - y) :: st) w := E_ib (f := fun x y => x - y) rfl
theorem e_56_11 {ls : ab_L} {w : ab_W} {x : Int32} : ab_Run ab_mt 56 11 ls [.int x] w = some (.inl (some (.int x)), w) := E_reti rfl
theorem rv_56 {σ : ab_S} {t : Nat} {x0 : Int32} : ab_recv ab_mt 56 [.ref t, .int x0] σ = ab_isO 1 (σ t) := rfl
theorem e_57_0 {ls : ab_L} {st : List Value} {w : ab_W} (h : ab_isI (ls 1) = true) : ab_Run ab_mt 57 0 ls st w = ab_Run ab_mt 57 1 ls (ab_gv (ls 1) :: st) w := E_loadi (n := 1) rfl h
theorem e_57_1 {ls : ab_L} {st : List Value} {w : ab_W} {x : Int32} : ab_Run ab_mt 57 1 ls (.int x :: st) w = if x < 0 then ab_Run ab_mt 57 21 ls st w else ab_Run ab_mt 57 4 ls st w := E_if_lt rfl
theorem e_57_4 {ls : ab_L} {st : List Value} {w : ab_W} (h : ab_isI (ls 1) = true) : ab_Run ab_mt 57 4 ls st w = ab_Run ab_mt 57 5 ls (ab_gv (ls 1) :: st) w := E_loadi (n := 1) rfl h
theorem e_57_5 {ls : ab_L} {st : List Value} {w : ab_W} (h : ab_isR (ls 0) = true) : ab_Run ab_mt 57 5 ls st w = ab_Run ab_mt 57 6 ls (ab_gv (ls 0) :: st) w := E_loadr (n := 1) rfl h
theorem e_57_6 {ls : ab_L} {st : List Value} {w : ab_W} {a : Nat} (h : ab_isF 1 6 (w.2 a) = true) : ab_Run ab_mt 57 6 ls (.ref a :: st) w = ab_Run ab_mt 57 9 ls (ab_fv 6 (w.2 a) :: st) w := E_get rfl h
theorem e_57_9 {ls : ab_L} {st : List Value} {w : ab_W} {x y : Int32} : ab_Run ab_mt 57 9 ls (.int y :: .int x :: st) w = if y ≤ x then ab_Run ab_mt 57 21 ls st w else ab_Run ab_mt 57 12 ls st w := E_ic_ge rfl
theorem e_57_12 {ls : ab_L} {st : List Value} {w : ab_W} (h : ab_isR (ls 0) = true) : ab_Run ab_mt 57 12 ls st w = ab_Run ab_mt 57 13 ls (ab_gv (ls 0) :: st) w := E_loadr (n := 1) rfl h
theorem e_57_13 {ls : ab_L} {st : List Value} {w : ab_W} {a : Nat} (h : ab_isF 1 3 (w.2 a) = true) : ab_Run ab_mt 57 13 ls (.ref a :: st) w = ab_Run ab_mt 57 16 ls (ab_fv 3 (w.2 a) :: st) w := E_get rfl h
theorem e_57_16 {ls : ab_L} {st : List Value} {w : ab_W} (h : ab_isI (ls 1) = true) : ab_Run ab_mt 57 16 ls st w = ab_Run ab_mt 57 17 ls (ab_gv (ls 1) :: st) w := E_loadi (n := 1) rfl h
theorem e_57_17 {ls : ab_L} {st : List Value} {w : ab_W} {a : Nat} {i : Int32} (h : ab_inI i (w.2 a) = true) : ab_Run ab_mt 57 17 ls (.int i :: .ref a :: st) w = ab_Run ab_mt 57 18 ls (.int (ab_aI i.toNatClampNeg (w.2 a)) :: st) w := E_iald rfl h
theorem e_57_18 {ls : ab_L} {st : List Value} {w : ab_W} : ab_Run ab_mt 57 18 ls st w = ab_Run ab_mt 57 22 ls st w := E_goto rfl
theorem e_57_21 {ls : ab_L} {st : List Value} {w : ab_W} : ab_Run ab_mt 57 21 ls st w = ab_Run ab_mt 57 22 ls (.int (nI 0) :: st) w := E_push (n := 1) rfl
theorem e_57_22 {ls : ab_L} {w : ab_W} {x : Int32} : ab_Run ab_mt 57 22 ls [.int x] w = some (.inl (some (.int x)), w) := E_reti rfl
theorem rv_57 {σ : ab_S} {t : Nat} {x0 : Int32} : ab_recv ab_mt 57 [.ref t, .int x0] σ = ab_isO 1 (σ t) := rfl
theorem e_58_0 {ls : ab_L} {st : List Value} {w : ab_W} : ab_Run ab_mt 58 0 ls st w = ab_Run ab_mt 58 3 ls (.long (lN 600000000) :: st) w := E_push (n := 3) rfl
theorem e_58_3 {ls : ab_L} {st : List Value} {w : ab_W} (h : ab_isR (ls 0) = true) : ab_Run ab_mt 58 3 ls st w = ab_Run ab_mt 58 4 ls (ab_gv (ls 0) :: st) w := E_loadr (n := 1) rfl h
theorem e_58_4 {ls : ab_L} {st : List Value} {w : ab_W} (h : ab_isI (ls 1) = true) : ab_Run ab_mt 58 4 ls st w = ab_Run ab_mt 58 5 ls (ab_gv (ls 1) :: st) w := E_loadi (n := 1) rfl h
theorem e_58_5 {ls : ab_L} {st : List Value} {w : ab_W} {v0 v1 : Value} (h1 : ab_recv ab_mt 57 [v0, v1] w.2 = true) (h8 : ab_w8 st = true) : ab_Run ab_mt 58 5 ls (v1 :: v0 :: st) w = ab_aft 57 58 5 ls st (ab_Cl 57 [v0, v1] w) := E_call2 rfl h1 h8
theorem e_58_8 {ls : ab_L} {st : List Value} {w : ab_W} {x : Int32} : ab_Run ab_mt 58 8 ls (.int x :: st) w = ab_Run ab_mt 58 9 ls (.long x.toInt64 :: st) w := E_i2l rfl
theorem e_58_9 {ls : ab_L} {st : List Value} {w : ab_W} {v0 v1 : Value} (h1 : ab_recv ab_mt 43 [v0, v1] w.2 = true) (h8 : ab_w8 st = true) : ab_Run ab_mt 58 9 ls (v1 :: v0 :: st) w = ab_aft 43 58 9 ls st (ab_Cl 43 [v0, v1] w) := E_call2 rfl h1 h8
theorem e_58_12 {ls : ab_L} {w : ab_W} {x : Int64} : ab_Run ab_mt 58 12 ls [.long x] w = some (.inl (some (.long x)), w) := E_retl rfl
theorem rv_58 {σ : ab_S} {t : Nat} {x0 : Int32} : ab_recv ab_mt 58 [.ref t, .int x0] σ = ab_isO 1 (σ t) := rfl
theorem e_59_0 {ls : ab_L} {st : List Value} {w : ab_W} (h : ab_isI (ls 1) = true) : ab_Run ab_mt 59 0 ls st w = ab_Run ab_mt 59 1 ls (ab_gv (ls 1) :: st) w := E_loadi (n := 1) rfl h
theorem e_59_1 {ls : ab_L} {st : List Value} {w : ab_W} {x : Int32} : ab_Run ab_mt 59 1 ls (.int x :: st) w = if x < 0 then ab_Run ab_mt 59 21 ls st w else ab_Run ab_mt 59 4 ls st w := E_if_lt rfl
theorem e_59_4 {ls : ab_L} {st : List Value} {w : ab_W} (h : ab_isI (ls 1) = true) : ab_Run ab_mt 59 4 ls st w = ab_Run ab_mt 59 5 ls (ab_gv (ls 1) :: st) w := E_loadi (n := 1) rfl h
theorem e_59_5 {ls : ab_L} {st : List Value} {w : ab_W} (h : ab_isR (ls 0) = true) : ab_Run ab_mt 59 5 ls st w = ab_Run ab_mt 59 6 ls (ab_gv (ls 0) :: st) w := E_loadr (n := 1) rfl h
theorem e_59_6 {ls : ab_L} {st : List Value} {w : ab_W} {a : Nat} (h : ab_isF 1 6 (w.2 a) = true) : ab_Run ab_mt 59 6 ls (.ref a :: st) w = ab_Run ab_mt 59 9 ls (ab_fv 6 (w.2 a) :: st) w := E_get rfl h
theorem e_59_9 {ls : ab_L} {st : List Value} {w : ab_W} {x y : Int32} : ab_Run ab_mt 59 9 ls (.int y :: .int x :: st) w = if y ≤ x then ab_Run ab_mt 59 21 ls st w else ab_Run ab_mt 59 12 ls st w := E_ic_ge rfl
theorem e_59_12 {ls : ab_L} {st : List Value} {w : ab_W} (h : ab_isR (ls 0) = true) : ab_Run ab_mt 59 12 ls st w = ab_Run ab_mt 59 13 ls (ab_gv (ls 0) :: st) w := E_loadr (n := 1) rfl h
theorem e_59_13 {ls : ab_L} {st : List Value} {w : ab_W} {a : Nat} (h : ab_isF 1 4 (w.2 a) = true) : ab_Run ab_mt 59 13 ls (.ref a :: st) w = ab_Run ab_mt 59 16 ls (ab_fv 4 (w.2 a) :: st) w := E_get rfl h
theorem e_59_16 {ls : ab_L} {st : List Value} {w : ab_W} (h : ab_isI (ls 1) = true) : ab_Run ab_mt 59 16 ls st w = ab_Run ab_mt 59 17 ls (ab_gv (ls 1) :: st) w := E_loadi (n := 1) rfl h
theorem e_59_17 {ls : ab_L} {st : List Value} {w : ab_W} {a : Nat} {i : Int32} (h : ab_inL i (w.2 a) = true) : ab_Run ab_mt 59 17 ls (.int i :: .ref a :: st) w = ab_Run ab_mt 59 18 ls (.long (ab_aL i.toNatClampNeg (w.2 a)) :: st) w := E_lald rfl h
theorem e_59_18 {ls : ab_L} {st : List Value} {w : ab_W} : ab_Run ab_mt 59 18 ls st w = ab_Run ab_mt 59 22 ls st w := E_goto rfl
theorem e_59_21 {ls : ab_L} {st : List Value} {w : ab_W} : ab_Run ab_mt 59 21 ls st w = ab_Run ab_mt 59 22 ls (.long (lN 0) :: st) w := E_push (n := 1) rfl
theorem e_59_22 {ls : ab_L} {w : ab_W} {x : Int64} : ab_Run ab_mt 59 22 ls [.long x] w = some (.inl (some (.long x)), w) := E_retl rfl
theorem rv_59 {σ : ab_S} {t : Nat} {x0 : Int32} : ab_recv ab_mt 59 [.ref t, .int x0] σ = ab_isO 1 (σ t) := rfl
theorem e_60_0 {ls : ab_L} {st : List Value} {w : ab_W} (h : ab_isI (ls 1) = true) : ab_Run ab_mt 60 0 ls st w = ab_Run ab_mt 60 1 ls (ab_gv (ls 1) :: st) w := E_loadi (n := 1) rfl h
theorem e_60_1 {ls : ab_L} {st : List Value} {w : ab_W} {x : Int32} : ab_Run ab_mt 60 1 ls (.int x :: st) w = if x < 0 then ab_Run ab_mt 60 21 ls st w else ab_Run ab_mt 60 4 ls st w := E_if_lt rfl
theorem e_60_4 {ls : ab_L} {st : List Value} {w : ab_W} (h : ab_isI (ls 1) = true) : ab_Run ab_mt 60 4 ls st w = ab_Run ab_mt 60 5 ls (ab_gv (ls 1) :: st) w := E_loadi (n := 1) rfl h
theorem e_60_5 {ls : ab_L} {st : List Value} {w : ab_W} (h : ab_isR (ls 0) = true) : ab_Run ab_mt 60 5 ls st w = ab_Run ab_mt 60 6 ls (ab_gv (ls 0) :: st) w := E_loadr (n := 1) rfl h
theorem e_60_6 {ls : ab_L} {st : List Value} {w : ab_W} {a : Nat} (h : ab_isF 1 6 (w.2 a) = true) : ab_Run ab_mt 60 6 ls (.ref a :: st) w = ab_Run ab_mt 60 9 ls (ab_fv 6 (w.2 a) :: st) w := E_get rfl h
theorem e_60_9 {ls : ab_L} {st : List Value} {w : ab_W} {x y : Int32} : ab_Run ab_mt 60 9 ls (.int y :: .int x :: st) w = if y ≤ x then ab_Run ab_mt 60 21 ls st w else ab_Run ab_mt 60 12 ls st w := E_ic_ge rfl
theorem e_60_12 {ls : ab_L} {st : List Value} {w : ab_W} (h : ab_isR (ls 0) = true) : ab_Run ab_mt 60 12 ls st w = ab_Run ab_mt 60 13 ls (ab_gv (ls 0) :: st) w := E_loadr (n := 1) rfl h
theorem e_60_13 {ls : ab_L} {st : List Value} {w : ab_W} {a : Nat} (h : ab_isF 1 5 (w.2 a) = true) : ab_Run ab_mt 60 13 ls (.ref a :: st) w = ab_Run ab_mt 60 16 ls (ab_fv 5 (w.2 a) :: st) w := E_get rfl h
theorem e_60_16 {ls : ab_L} {st : List Value} {w : ab_W} (h : ab_isI (ls 1) = true) : ab_Run ab_mt 60 16 ls st w = ab_Run ab_mt 60 17 ls (ab_gv (ls 1) :: st) w := E_loadi (n := 1) rfl h
theorem e_60_17 {ls : ab_L} {st : List Value} {w : ab_W} {a : Nat} {i : Int32} (h : ab_inL i (w.2 a) = true) : ab_Run ab_mt 60 17 ls (.int i :: .ref a :: st) w = ab_Run ab_mt 60 18 ls (.long (ab_aL i.toNatClampNeg (w.2 a)) :: st) w := E_lald rfl h
theorem e_60_18 {ls : ab_L} {st : List Value} {w : ab_W} : ab_Run ab_mt 60 18 ls st w = ab_Run ab_mt 60 22 ls st w := E_goto rfl
theorem e_60_21 {ls : ab_L} {st : List Value} {w : ab_W} : ab_Run ab_mt 60 21 ls st w = ab_Run ab_mt 60 22 ls (.long (lN 0) :: st) w := E_push (n := 1) rfl
theorem e_60_22 {ls : ab_L} {w : ab_W} {x : Int64} : ab_Run ab_mt 60 22 ls [.long x] w = some (.inl (some (.long x)), w) := E_retl rfl
theorem rv_60 {σ : ab_S} {t : Nat} {x0 : Int32} : ab_recv ab_mt 60 [.ref t, .int x0] σ = ab_isO 1 (σ t) := rfl
