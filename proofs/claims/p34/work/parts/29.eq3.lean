/-! the equations of runs, an instruction each: printed by wip/p34/gen_step.py -/
set_option maxRecDepth 30000 in
theorem e_83_0 {ls : ab_L} {st : List Value} {w : ab_W} : ab_Run ab_mt 83 0 ls st w = ab_Run ab_mt 83 1 ls (.int (nI 0) :: st) w := E_push (n := 1) rfl
set_option maxRecDepth 30000 in
theorem e_83_1 {ls : ab_L} {st : List Value} {w : ab_W} {x : Int32} : ab_Run ab_mt 83 1 ls (.int x :: st) w = ab_Run ab_mt 83 3 (ab_l1 ls 5 (.int x)) st w := E_stori (n := 2) rfl
set_option maxRecDepth 30000 in
theorem e_83_3 {ls : ab_L} {st : List Value} {w : ab_W} (h : ab_isI (ls 5) = true) : ab_Run ab_mt 83 3 ls st w = ab_Run ab_mt 83 5 ls (ab_gv (ls 5) :: st) w := E_loadi (n := 2) rfl h
set_option maxRecDepth 30000 in
theorem e_83_5 {ls : ab_L} {st : List Value} {w : ab_W} (h : ab_isR (ls 1) = true) : ab_Run ab_mt 83 5 ls st w = ab_Run ab_mt 83 6 ls (ab_gv (ls 1) :: st) w := E_loadr (n := 1) rfl h
set_option maxRecDepth 30000 in
theorem e_83_6 {ls : ab_L} {st : List Value} {w : ab_W} : ab_Run ab_mt 83 6 ls st w = ab_Run ab_mt 83 7 ls (.int (nI 1) :: st) w := E_push (n := 1) rfl
set_option maxRecDepth 30000 in
theorem e_83_7 {ls : ab_L} {st : List Value} {w : ab_W} {a : Nat} {i : Int32} (h : ab_inI i (w.2 a) = true) : ab_Run ab_mt 83 7 ls (.int i :: .ref a :: st) w = ab_Run ab_mt 83 8 ls (.int (ab_aI i.toNatClampNeg (w.2 a)) :: st) w := E_iald rfl h
set_option maxRecDepth 30000 in
theorem e_83_8 {ls : ab_L} {st : List Value} {w : ab_W} {x y : Int32} : ab_Run ab_mt 83 8 ls (.int y :: .int x :: st) w = if y ≤ x then ab_Run ab_mt 83 63 ls st w else ab_Run ab_mt 83 11 ls st w := E_ic_ge rfl
set_option maxRecDepth 30000 in
theorem e_83_11 {ls : ab_L} {st : List Value} {w : ab_W} (h : ab_isI (ls 5) = true) : ab_Run ab_mt 83 11 ls st w = ab_Run ab_mt 83 13 ls (ab_gv (ls 5) :: st) w := E_loadi (n := 2) rfl h
set_option maxRecDepth 30000 in
theorem e_83_13 {ls : ab_L} {st : List Value} {w : ab_W} (h : ab_isR (ls 1) = true) : ab_Run ab_mt 83 13 ls st w = ab_Run ab_mt 83 14 ls (ab_gv (ls 1) :: st) w := E_loadr (n := 1) rfl h
set_option maxRecDepth 30000 in
theorem e_83_14 {ls : ab_L} {st : List Value} {w : ab_W} (h : ab_isR (ls 3) = true) : ab_Run ab_mt 83 14 ls st w = ab_Run ab_mt 83 15 ls (ab_gv (ls 3) :: st) w := E_loadr (n := 1) rfl h
set_option maxRecDepth 30000 in
theorem e_83_15 {ls : ab_L} {st : List Value} {w : ab_W} {v0 v1 v2 : Value} (h1 : ab_recv ab_mt 77 [v0, v1, v2] w.2 = true) (h8 : ab_w8 st = true) : ab_Run ab_mt 83 15 ls (v2 :: v1 :: v0 :: st) w = ab_aft 77 83 15 ls st (ab_Cl 77 [v0, v1, v2] w) := E_call3 rfl h1 h8
set_option maxRecDepth 30000 in
theorem e_83_18 {ls : ab_L} {st : List Value} {w : ab_W} {x : Int32} : ab_Run ab_mt 83 18 ls (.int x :: st) w = ab_Run ab_mt 83 20 (ab_l1 ls 6 (.int x)) st w := E_stori (n := 2) rfl
set_option maxRecDepth 30000 in
theorem e_83_20 {ls : ab_L} {st : List Value} {w : ab_W} : ab_Run ab_mt 83 20 ls st w = ab_Run ab_mt 83 21 ls (.int (nI 0) :: st) w := E_push (n := 1) rfl
set_option maxRecDepth 30000 in
theorem e_83_21 {ls : ab_L} {st : List Value} {w : ab_W} {x : Int32} : ab_Run ab_mt 83 21 ls (.int x :: st) w = ab_Run ab_mt 83 23 (ab_l1 ls 7 (.int x)) st w := E_stori (n := 2) rfl
set_option maxRecDepth 30000 in
theorem e_83_23 {ls : ab_L} {st : List Value} {w : ab_W} (h : ab_isI (ls 7) = true) : ab_Run ab_mt 83 23 ls st w = ab_Run ab_mt 83 25 ls (ab_gv (ls 7) :: st) w := E_loadi (n := 2) rfl h
set_option maxRecDepth 30000 in
theorem e_83_25 {ls : ab_L} {st : List Value} {w : ab_W} : ab_Run ab_mt 83 25 ls st w = ab_Run ab_mt 83 26 ls (.int (nI 3) :: st) w := E_push (n := 1) rfl
set_option maxRecDepth 30000 in
theorem e_83_26 {ls : ab_L} {st : List Value} {w : ab_W} {x y : Int32} : ab_Run ab_mt 83 26 ls (.int y :: .int x :: st) w = if y ≤ x then ab_Run ab_mt 83 57 ls st w else ab_Run ab_mt 83 29 ls st w := E_ic_ge rfl
set_option maxRecDepth 30000 in
theorem e_83_29 {ls : ab_L} {st : List Value} {w : ab_W} (h : ab_isR (ls 0) = true) : ab_Run ab_mt 83 29 ls st w = ab_Run ab_mt 83 30 ls (ab_gv (ls 0) :: st) w := E_loadr (n := 1) rfl h
set_option maxRecDepth 30000 in
theorem e_83_30 {ls : ab_L} {st : List Value} {w : ab_W} (h : ab_isI (ls 5) = true) : ab_Run ab_mt 83 30 ls st w = ab_Run ab_mt 83 32 ls (ab_gv (ls 5) :: st) w := E_loadi (n := 2) rfl h
set_option maxRecDepth 30000 in
theorem e_83_32 {ls : ab_L} {st : List Value} {w : ab_W} (h : ab_isI (ls 7) = true) : ab_Run ab_mt 83 32 ls st w = ab_Run ab_mt 83 34 ls (ab_gv (ls 7) :: st) w := E_loadi (n := 2) rfl h
set_option maxRecDepth 30000 in
theorem e_83_34 {ls : ab_L} {st : List Value} {w : ab_W} {v0 v1 v2 : Value} (h1 : ab_recv ab_mt 11 [v0, v1, v2] w.2 = true) (h8 : ab_w8 st = true) : ab_Run ab_mt 83 34 ls (v2 :: v1 :: v0 :: st) w = ab_aft 11 83 34 ls st (ab_Cl 11 [v0, v1, v2] w) := E_call3 rfl h1 h8
set_option maxRecDepth 30000 in
theorem e_83_37 {ls : ab_L} {st : List Value} {w : ab_W} (h : ab_isR (ls 3) = true) : ab_Run ab_mt 83 37 ls st w = ab_Run ab_mt 83 38 ls (ab_gv (ls 3) :: st) w := E_loadr (n := 1) rfl h
set_option maxRecDepth 30000 in
theorem e_83_38 {ls : ab_L} {st : List Value} {w : ab_W} : ab_Run ab_mt 83 38 ls st w = ab_Run ab_mt 83 39 ls (.int (nI 3) :: st) w := E_push (n := 1) rfl
set_option maxRecDepth 30000 in
theorem e_83_39 {ls : ab_L} {st : List Value} {w : ab_W} (h : ab_isI (ls 6) = true) : ab_Run ab_mt 83 39 ls st w = ab_Run ab_mt 83 41 ls (ab_gv (ls 6) :: st) w := E_loadi (n := 2) rfl h
set_option maxRecDepth 30000 in
theorem e_83_41 {ls : ab_L} {st : List Value} {w : ab_W} {x y : Int32} : ab_Run ab_mt 83 41 ls (.int y :: .int x :: st) w = ab_Run ab_mt 83 42 ls (.int (x * y) :: st) w := E_ib (f := fun x y => x * y) rfl
set_option maxRecDepth 30000 in
theorem e_83_42 {ls : ab_L} {st : List Value} {w : ab_W} (h : ab_isI (ls 7) = true) : ab_Run ab_mt 83 42 ls st w = ab_Run ab_mt 83 44 ls (ab_gv (ls 7) :: st) w := E_loadi (n := 2) rfl h
set_option maxRecDepth 30000 in
theorem e_83_44 {ls : ab_L} {st : List Value} {w : ab_W} {x y : Int32} : ab_Run ab_mt 83 44 ls (.int y :: .int x :: st) w = ab_Run ab_mt 83 45 ls (.int (x + y) :: st) w := E_ib (f := fun x y => x + y) rfl
set_option maxRecDepth 30000 in
theorem e_83_45 {ls : ab_L} {st : List Value} {w : ab_W} {a : Nat} {i : Int32} (h : ab_inI i (w.2 a) = true) : ab_Run ab_mt 83 45 ls (.int i :: .ref a :: st) w = ab_Run ab_mt 83 46 ls (.int (ab_aI i.toNatClampNeg (w.2 a)) :: st) w := E_iald rfl h
set_option maxRecDepth 30000 in
theorem e_83_46 {ls : ab_L} {st : List Value} {w : ab_W} {x y : Int32} : ab_Run ab_mt 83 46 ls (.int y :: .int x :: st) w = if x = y then ab_Run ab_mt 83 51 ls st w else ab_Run ab_mt 83 49 ls st w := E_ic_eq rfl
set_option maxRecDepth 30000 in
theorem e_83_49 {ls : ab_L} {st : List Value} {w : ab_W} : ab_Run ab_mt 83 49 ls st w = ab_Run ab_mt 83 50 ls (.int (nI 0) :: st) w := E_push (n := 1) rfl
set_option maxRecDepth 30000 in
theorem e_83_50 {ls : ab_L} {w : ab_W} {x : Int32} (h : ab_fitr 2 (.int x) = true) : ab_Run ab_mt 83 50 ls [.int x] w = some (.inl (some (.int x)), w) := E_retz rfl h
set_option maxRecDepth 30000 in
theorem e_83_51 {ls : ab_L} {st : List Value} {w : ab_W} (h : ab_isI (ls 7) = true) : ab_Run ab_mt 83 51 ls st w = ab_Run ab_mt 83 54 (ab_l1 ls 7 (.int (ab_gi (ls 7) + (nI 1)))) st w := E_iinc rfl h
set_option maxRecDepth 30000 in
theorem e_83_54 {ls : ab_L} {st : List Value} {w : ab_W} : ab_Run ab_mt 83 54 ls st w = ab_Run ab_mt 83 23 ls st w := E_goto rfl
set_option maxRecDepth 30000 in
theorem e_83_57 {ls : ab_L} {st : List Value} {w : ab_W} (h : ab_isI (ls 5) = true) : ab_Run ab_mt 83 57 ls st w = ab_Run ab_mt 83 60 (ab_l1 ls 5 (.int (ab_gi (ls 5) + (nI 1)))) st w := E_iinc rfl h
set_option maxRecDepth 30000 in
theorem e_83_60 {ls : ab_L} {st : List Value} {w : ab_W} : ab_Run ab_mt 83 60 ls st w = ab_Run ab_mt 83 3 ls st w := E_goto rfl
set_option maxRecDepth 30000 in
theorem e_83_63 {ls : ab_L} {st : List Value} {w : ab_W} : ab_Run ab_mt 83 63 ls st w = ab_Run ab_mt 83 64 ls (.int (nI 0) :: st) w := E_push (n := 1) rfl
set_option maxRecDepth 30000 in
theorem e_83_64 {ls : ab_L} {st : List Value} {w : ab_W} {x : Int32} : ab_Run ab_mt 83 64 ls (.int x :: st) w = ab_Run ab_mt 83 66 (ab_l1 ls 5 (.int x)) st w := E_stori (n := 2) rfl
set_option maxRecDepth 30000 in
theorem e_83_66 {ls : ab_L} {st : List Value} {w : ab_W} (h : ab_isI (ls 5) = true) : ab_Run ab_mt 83 66 ls st w = ab_Run ab_mt 83 68 ls (ab_gv (ls 5) :: st) w := E_loadi (n := 2) rfl h
set_option maxRecDepth 30000 in
theorem e_83_68 {ls : ab_L} {st : List Value} {w : ab_W} (h : ab_isR (ls 1) = true) : ab_Run ab_mt 83 68 ls st w = ab_Run ab_mt 83 69 ls (ab_gv (ls 1) :: st) w := E_loadr (n := 1) rfl h
set_option maxRecDepth 30000 in
theorem e_83_69 {ls : ab_L} {st : List Value} {w : ab_W} : ab_Run ab_mt 83 69 ls st w = ab_Run ab_mt 83 70 ls (.int (nI 2) :: st) w := E_push (n := 1) rfl
set_option maxRecDepth 30000 in
theorem e_83_70 {ls : ab_L} {st : List Value} {w : ab_W} {a : Nat} {i : Int32} (h : ab_inI i (w.2 a) = true) : ab_Run ab_mt 83 70 ls (.int i :: .ref a :: st) w = ab_Run ab_mt 83 71 ls (.int (ab_aI i.toNatClampNeg (w.2 a)) :: st) w := E_iald rfl h
set_option maxRecDepth 30000 in
theorem e_83_71 {ls : ab_L} {st : List Value} {w : ab_W} {x y : Int32} : ab_Run ab_mt 83 71 ls (.int y :: .int x :: st) w = if y ≤ x then ab_Run ab_mt 83 219 ls st w else ab_Run ab_mt 83 74 ls st w := E_ic_ge rfl
set_option maxRecDepth 30000 in
theorem e_83_74 {ls : ab_L} {st : List Value} {w : ab_W} (h : ab_isI (ls 5) = true) : ab_Run ab_mt 83 74 ls st w = ab_Run ab_mt 83 76 ls (ab_gv (ls 5) :: st) w := E_loadi (n := 2) rfl h
set_option maxRecDepth 30000 in
theorem e_83_76 {ls : ab_L} {st : List Value} {w : ab_W} (h : ab_isR (ls 1) = true) : ab_Run ab_mt 83 76 ls st w = ab_Run ab_mt 83 77 ls (ab_gv (ls 1) :: st) w := E_loadr (n := 1) rfl h
set_option maxRecDepth 30000 in
theorem e_83_77 {ls : ab_L} {st : List Value} {w : ab_W} (h : ab_isR (ls 2) = true) : ab_Run ab_mt 83 77 ls st w = ab_Run ab_mt 83 78 ls (ab_gv (ls 2) :: st) w := E_loadr (n := 1) rfl h
set_option maxRecDepth 30000 in
theorem e_83_78 {ls : ab_L} {st : List Value} {w : ab_W} (h : ab_isR (ls 3) = true) : ab_Run ab_mt 83 78 ls st w = ab_Run ab_mt 83 79 ls (ab_gv (ls 3) :: st) w := E_loadr (n := 1) rfl h
set_option maxRecDepth 30000 in
theorem e_83_79 {ls : ab_L} {st : List Value} {w : ab_W} (h : ab_isR (ls 4) = true) : ab_Run ab_mt 83 79 ls st w = ab_Run ab_mt 83 81 ls (ab_gv (ls 4) :: st) w := E_loadr (n := 2) rfl h
set_option maxRecDepth 30000 in
theorem e_83_81 {ls : ab_L} {st : List Value} {w : ab_W} {v0 v1 v2 v3 v4 : Value} (h1 : ab_recv ab_mt 74 [v0, v1, v2, v3, v4] w.2 = true) (h8 : ab_w8 st = true) : ab_Run ab_mt 83 81 ls (v4 :: v3 :: v2 :: v1 :: v0 :: st) w = ab_aft 74 83 81 ls st (ab_Cl 74 [v0, v1, v2, v3, v4] w) := E_call5 rfl h1 h8
set_option maxRecDepth 30000 in
theorem e_83_84 {ls : ab_L} {st : List Value} {w : ab_W} {x : Int64} : ab_Run ab_mt 83 84 ls (.long x :: st) w = ab_Run ab_mt 83 86 (ab_l2 ls 6 (.long x)) st w := E_storl (n := 2) rfl
set_option maxRecDepth 30000 in
theorem e_83_86 {ls : ab_L} {st : List Value} {w : ab_W} : ab_Run ab_mt 83 86 ls st w = ab_Run ab_mt 83 87 ls (.int (nI 0) :: st) w := E_push (n := 1) rfl
set_option maxRecDepth 30000 in
theorem e_83_87 {ls : ab_L} {st : List Value} {w : ab_W} {x : Int32} : ab_Run ab_mt 83 87 ls (.int x :: st) w = ab_Run ab_mt 83 89 (ab_l1 ls 8 (.int x)) st w := E_stori (n := 2) rfl
set_option maxRecDepth 30000 in
theorem e_83_89 {ls : ab_L} {st : List Value} {w : ab_W} : ab_Run ab_mt 83 89 ls st w = ab_Run ab_mt 83 90 ls (.int (nI 0) :: st) w := E_push (n := 1) rfl
set_option maxRecDepth 30000 in
theorem e_83_90 {ls : ab_L} {st : List Value} {w : ab_W} {x : Int32} : ab_Run ab_mt 83 90 ls (.int x :: st) w = ab_Run ab_mt 83 92 (ab_l1 ls 9 (.int x)) st w := E_stori (n := 2) rfl
set_option maxRecDepth 30000 in
theorem e_83_92 {ls : ab_L} {st : List Value} {w : ab_W} (h : ab_isI (ls 9) = true) : ab_Run ab_mt 83 92 ls st w = ab_Run ab_mt 83 94 ls (ab_gv (ls 9) :: st) w := E_loadi (n := 2) rfl h
set_option maxRecDepth 30000 in
theorem e_83_94 {ls : ab_L} {st : List Value} {w : ab_W} (h : ab_isR (ls 1) = true) : ab_Run ab_mt 83 94 ls st w = ab_Run ab_mt 83 95 ls (ab_gv (ls 1) :: st) w := E_loadr (n := 1) rfl h
set_option maxRecDepth 30000 in
theorem e_83_95 {ls : ab_L} {st : List Value} {w : ab_W} : ab_Run ab_mt 83 95 ls st w = ab_Run ab_mt 83 96 ls (.int (nI 2) :: st) w := E_push (n := 1) rfl
set_option maxRecDepth 30000 in
theorem e_83_96 {ls : ab_L} {st : List Value} {w : ab_W} {a : Nat} {i : Int32} (h : ab_inI i (w.2 a) = true) : ab_Run ab_mt 83 96 ls (.int i :: .ref a :: st) w = ab_Run ab_mt 83 97 ls (.int (ab_aI i.toNatClampNeg (w.2 a)) :: st) w := E_iald rfl h
set_option maxRecDepth 30000 in
theorem e_83_97 {ls : ab_L} {st : List Value} {w : ab_W} {x y : Int32} : ab_Run ab_mt 83 97 ls (.int y :: .int x :: st) w = if y ≤ x then ab_Run ab_mt 83 144 ls st w else ab_Run ab_mt 83 100 ls st w := E_ic_ge rfl
set_option maxRecDepth 30000 in
theorem e_83_100 {ls : ab_L} {st : List Value} {w : ab_W} (h : ab_isI (ls 9) = true) : ab_Run ab_mt 83 100 ls st w = ab_Run ab_mt 83 102 ls (ab_gv (ls 9) :: st) w := E_loadi (n := 2) rfl h
set_option maxRecDepth 30000 in
theorem e_83_102 {ls : ab_L} {st : List Value} {w : ab_W} (h : ab_isR (ls 1) = true) : ab_Run ab_mt 83 102 ls st w = ab_Run ab_mt 83 103 ls (ab_gv (ls 1) :: st) w := E_loadr (n := 1) rfl h
set_option maxRecDepth 30000 in
theorem e_83_103 {ls : ab_L} {st : List Value} {w : ab_W} (h : ab_isR (ls 2) = true) : ab_Run ab_mt 83 103 ls st w = ab_Run ab_mt 83 104 ls (ab_gv (ls 2) :: st) w := E_loadr (n := 1) rfl h
set_option maxRecDepth 30000 in
theorem e_83_104 {ls : ab_L} {st : List Value} {w : ab_W} (h : ab_isR (ls 3) = true) : ab_Run ab_mt 83 104 ls st w = ab_Run ab_mt 83 105 ls (ab_gv (ls 3) :: st) w := E_loadr (n := 1) rfl h
set_option maxRecDepth 30000 in
theorem e_83_105 {ls : ab_L} {st : List Value} {w : ab_W} (h : ab_isR (ls 4) = true) : ab_Run ab_mt 83 105 ls st w = ab_Run ab_mt 83 107 ls (ab_gv (ls 4) :: st) w := E_loadr (n := 2) rfl h
set_option maxRecDepth 30000 in
theorem e_83_107 {ls : ab_L} {st : List Value} {w : ab_W} {v0 v1 v2 v3 v4 : Value} (h1 : ab_recv ab_mt 74 [v0, v1, v2, v3, v4] w.2 = true) (h8 : ab_w8 st = true) : ab_Run ab_mt 83 107 ls (v4 :: v3 :: v2 :: v1 :: v0 :: st) w = ab_aft 74 83 107 ls st (ab_Cl 74 [v0, v1, v2, v3, v4] w) := E_call5 rfl h1 h8
set_option maxRecDepth 30000 in
theorem e_83_110 {ls : ab_L} {st : List Value} {w : ab_W} {x : Int64} : ab_Run ab_mt 83 110 ls (.long x :: st) w = ab_Run ab_mt 83 112 (ab_l2 ls 10 (.long x)) st w := E_storl (n := 2) rfl
set_option maxRecDepth 30000 in
theorem e_83_112 {ls : ab_L} {st : List Value} {w : ab_W} (h : ab_isL (ls 10) = true) (h2 : (ls 11).isNone = true) : ab_Run ab_mt 83 112 ls st w = ab_Run ab_mt 83 114 ls (ab_gv (ls 10) :: st) w := E_loadl (n := 2) rfl h h2
set_option maxRecDepth 30000 in
theorem e_83_114 {ls : ab_L} {st : List Value} {w : ab_W} (h : ab_isL (ls 6) = true) (h2 : (ls 7).isNone = true) : ab_Run ab_mt 83 114 ls st w = ab_Run ab_mt 83 116 ls (ab_gv (ls 6) :: st) w := E_loadl (n := 2) rfl h h2
set_option maxRecDepth 30000 in
theorem e_83_116 {ls : ab_L} {st : List Value} {w : ab_W} {x y : Int64} : ab_Run ab_mt 83 116 ls (.long y :: .long x :: st) w = ab_Run ab_mt 83 117 ls (.int (lg_cmp x y) :: st) w := E_lcmp rfl
set_option maxRecDepth 30000 in
theorem e_83_117 {ls : ab_L} {st : List Value} {w : ab_W} {x : Int32} : ab_Run ab_mt 83 117 ls (.int x :: st) w = if x < 0 then ab_Run ab_mt 83 135 ls st w else ab_Run ab_mt 83 120 ls st w := E_if_lt rfl
set_option maxRecDepth 30000 in
theorem e_83_120 {ls : ab_L} {st : List Value} {w : ab_W} (h : ab_isL (ls 10) = true) (h2 : (ls 11).isNone = true) : ab_Run ab_mt 83 120 ls st w = ab_Run ab_mt 83 122 ls (ab_gv (ls 10) :: st) w := E_loadl (n := 2) rfl h h2
set_option maxRecDepth 30000 in
theorem e_83_122 {ls : ab_L} {st : List Value} {w : ab_W} (h : ab_isL (ls 6) = true) (h2 : (ls 7).isNone = true) : ab_Run ab_mt 83 122 ls st w = ab_Run ab_mt 83 124 ls (ab_gv (ls 6) :: st) w := E_loadl (n := 2) rfl h h2
set_option maxRecDepth 30000 in
theorem e_83_124 {ls : ab_L} {st : List Value} {w : ab_W} {x y : Int64} : ab_Run ab_mt 83 124 ls (.long y :: .long x :: st) w = ab_Run ab_mt 83 125 ls (.int (lg_cmp x y) :: st) w := E_lcmp rfl
set_option maxRecDepth 30000 in
theorem e_83_125 {ls : ab_L} {st : List Value} {w : ab_W} {x : Int32} : ab_Run ab_mt 83 125 ls (.int x :: st) w = if x = 0 then ab_Run ab_mt 83 128 ls st w else ab_Run ab_mt 83 138 ls st w := E_if_ne rfl
set_option maxRecDepth 30000 in
theorem e_83_128 {ls : ab_L} {st : List Value} {w : ab_W} (h : ab_isI (ls 9) = true) : ab_Run ab_mt 83 128 ls st w = ab_Run ab_mt 83 130 ls (ab_gv (ls 9) :: st) w := E_loadi (n := 2) rfl h
set_option maxRecDepth 30000 in
theorem e_83_130 {ls : ab_L} {st : List Value} {w : ab_W} (h : ab_isI (ls 5) = true) : ab_Run ab_mt 83 130 ls st w = ab_Run ab_mt 83 132 ls (ab_gv (ls 5) :: st) w := E_loadi (n := 2) rfl h
set_option maxRecDepth 30000 in
theorem e_83_132 {ls : ab_L} {st : List Value} {w : ab_W} {x y : Int32} : ab_Run ab_mt 83 132 ls (.int y :: .int x :: st) w = if y ≤ x then ab_Run ab_mt 83 138 ls st w else ab_Run ab_mt 83 135 ls st w := E_ic_ge rfl
set_option maxRecDepth 30000 in
theorem e_83_135 {ls : ab_L} {st : List Value} {w : ab_W} (h : ab_isI (ls 8) = true) : ab_Run ab_mt 83 135 ls st w = ab_Run ab_mt 83 138 (ab_l1 ls 8 (.int (ab_gi (ls 8) + (nI 1)))) st w := E_iinc rfl h
set_option maxRecDepth 30000 in
theorem e_83_138 {ls : ab_L} {st : List Value} {w : ab_W} (h : ab_isI (ls 9) = true) : ab_Run ab_mt 83 138 ls st w = ab_Run ab_mt 83 141 (ab_l1 ls 9 (.int (ab_gi (ls 9) + (nI 1)))) st w := E_iinc rfl h
set_option maxRecDepth 30000 in
theorem e_83_141 {ls : ab_L} {st : List Value} {w : ab_W} : ab_Run ab_mt 83 141 ls st w = ab_Run ab_mt 83 92 ls st w := E_goto rfl
set_option maxRecDepth 30000 in
theorem e_83_144 {ls : ab_L} {st : List Value} {w : ab_W} : ab_Run ab_mt 83 144 ls st w = ab_Run ab_mt 83 145 ls (.int (nI 0) :: st) w := E_push (n := 1) rfl
set_option maxRecDepth 30000 in
theorem e_83_145 {ls : ab_L} {st : List Value} {w : ab_W} {x : Int32} : ab_Run ab_mt 83 145 ls (.int x :: st) w = ab_Run ab_mt 83 147 (ab_l1 ls 9 (.int x)) st w := E_stori (n := 2) rfl
set_option maxRecDepth 30000 in
theorem e_83_147 {ls : ab_L} {st : List Value} {w : ab_W} (h : ab_isI (ls 9) = true) : ab_Run ab_mt 83 147 ls st w = ab_Run ab_mt 83 149 ls (ab_gv (ls 9) :: st) w := E_loadi (n := 2) rfl h
set_option maxRecDepth 30000 in
theorem e_83_149 {ls : ab_L} {st : List Value} {w : ab_W} : ab_Run ab_mt 83 149 ls st w = ab_Run ab_mt 83 150 ls (.int (nI 3) :: st) w := E_push (n := 1) rfl
set_option maxRecDepth 30000 in
theorem e_83_150 {ls : ab_L} {st : List Value} {w : ab_W} {x y : Int32} : ab_Run ab_mt 83 150 ls (.int y :: .int x :: st) w = if y ≤ x then ab_Run ab_mt 83 184 ls st w else ab_Run ab_mt 83 153 ls st w := E_ic_ge rfl
set_option maxRecDepth 30000 in
theorem e_83_153 {ls : ab_L} {st : List Value} {w : ab_W} (h : ab_isR (ls 0) = true) : ab_Run ab_mt 83 153 ls st w = ab_Run ab_mt 83 154 ls (ab_gv (ls 0) :: st) w := E_loadr (n := 1) rfl h
set_option maxRecDepth 30000 in
theorem e_83_154 {ls : ab_L} {st : List Value} {w : ab_W} (h : ab_isI (ls 5) = true) : ab_Run ab_mt 83 154 ls st w = ab_Run ab_mt 83 156 ls (ab_gv (ls 5) :: st) w := E_loadi (n := 2) rfl h
set_option maxRecDepth 30000 in
theorem e_83_156 {ls : ab_L} {st : List Value} {w : ab_W} (h : ab_isI (ls 9) = true) : ab_Run ab_mt 83 156 ls st w = ab_Run ab_mt 83 158 ls (ab_gv (ls 9) :: st) w := E_loadi (n := 2) rfl h
set_option maxRecDepth 30000 in
theorem e_83_158 {ls : ab_L} {st : List Value} {w : ab_W} {v0 v1 v2 : Value} (h1 : ab_recv ab_mt 12 [v0, v1, v2] w.2 = true) (h8 : ab_w8 st = true) : ab_Run ab_mt 83 158 ls (v2 :: v1 :: v0 :: st) w = ab_aft 12 83 158 ls st (ab_Cl 12 [v0, v1, v2] w) := E_call3 rfl h1 h8
set_option maxRecDepth 30000 in
theorem e_83_161 {ls : ab_L} {st : List Value} {w : ab_W} (h : ab_isR (ls 4) = true) : ab_Run ab_mt 83 161 ls st w = ab_Run ab_mt 83 163 ls (ab_gv (ls 4) :: st) w := E_loadr (n := 2) rfl h
set_option maxRecDepth 30000 in
theorem e_83_163 {ls : ab_L} {st : List Value} {w : ab_W} : ab_Run ab_mt 83 163 ls st w = ab_Run ab_mt 83 164 ls (.int (nI 3) :: st) w := E_push (n := 1) rfl
set_option maxRecDepth 30000 in
theorem e_83_164 {ls : ab_L} {st : List Value} {w : ab_W} (h : ab_isI (ls 5) = true) : ab_Run ab_mt 83 164 ls st w = ab_Run ab_mt 83 166 ls (ab_gv (ls 5) :: st) w := E_loadi (n := 2) rfl h
set_option maxRecDepth 30000 in
theorem e_83_166 {ls : ab_L} {st : List Value} {w : ab_W} {x y : Int32} : ab_Run ab_mt 83 166 ls (.int y :: .int x :: st) w = ab_Run ab_mt 83 167 ls (.int (x * y) :: st) w := E_ib (f := fun x y => x * y) rfl
set_option maxRecDepth 30000 in
theorem e_83_167 {ls : ab_L} {st : List Value} {w : ab_W} (h : ab_isI (ls 9) = true) : ab_Run ab_mt 83 167 ls st w = ab_Run ab_mt 83 169 ls (ab_gv (ls 9) :: st) w := E_loadi (n := 2) rfl h
set_option maxRecDepth 30000 in
theorem e_83_169 {ls : ab_L} {st : List Value} {w : ab_W} {x y : Int32} : ab_Run ab_mt 83 169 ls (.int y :: .int x :: st) w = ab_Run ab_mt 83 170 ls (.int (x + y) :: st) w := E_ib (f := fun x y => x + y) rfl
set_option maxRecDepth 30000 in
theorem e_83_170 {ls : ab_L} {st : List Value} {w : ab_W} {a : Nat} {i : Int32} (h : ab_inI i (w.2 a) = true) : ab_Run ab_mt 83 170 ls (.int i :: .ref a :: st) w = ab_Run ab_mt 83 171 ls (.int (ab_aI i.toNatClampNeg (w.2 a)) :: st) w := E_iald rfl h
set_option maxRecDepth 30000 in
theorem e_83_171 {ls : ab_L} {st : List Value} {w : ab_W} {x : Int32} : ab_Run ab_mt 83 171 ls (.int x :: st) w = ab_Run ab_mt 83 172 ls (.long x.toInt64 :: st) w := E_i2l rfl
set_option maxRecDepth 30000 in
theorem e_83_172 {ls : ab_L} {st : List Value} {w : ab_W} {x y : Int64} : ab_Run ab_mt 83 172 ls (.long y :: .long x :: st) w = ab_Run ab_mt 83 173 ls (.int (lg_cmp x y) :: st) w := E_lcmp rfl
set_option maxRecDepth 30000 in
theorem e_83_173 {ls : ab_L} {st : List Value} {w : ab_W} {x : Int32} : ab_Run ab_mt 83 173 ls (.int x :: st) w = if x = 0 then ab_Run ab_mt 83 178 ls st w else ab_Run ab_mt 83 176 ls st w := E_if_eq rfl
set_option maxRecDepth 30000 in
theorem e_83_176 {ls : ab_L} {st : List Value} {w : ab_W} : ab_Run ab_mt 83 176 ls st w = ab_Run ab_mt 83 177 ls (.int (nI 0) :: st) w := E_push (n := 1) rfl
set_option maxRecDepth 30000 in
theorem e_83_177 {ls : ab_L} {w : ab_W} {x : Int32} (h : ab_fitr 2 (.int x) = true) : ab_Run ab_mt 83 177 ls [.int x] w = some (.inl (some (.int x)), w) := E_retz rfl h
set_option maxRecDepth 30000 in
theorem e_83_178 {ls : ab_L} {st : List Value} {w : ab_W} (h : ab_isI (ls 9) = true) : ab_Run ab_mt 83 178 ls st w = ab_Run ab_mt 83 181 (ab_l1 ls 9 (.int (ab_gi (ls 9) + (nI 1)))) st w := E_iinc rfl h
set_option maxRecDepth 30000 in
theorem e_83_181 {ls : ab_L} {st : List Value} {w : ab_W} : ab_Run ab_mt 83 181 ls st w = ab_Run ab_mt 83 147 ls st w := E_goto rfl
set_option maxRecDepth 30000 in
theorem e_83_184 {ls : ab_L} {st : List Value} {w : ab_W} (h : ab_isR (ls 0) = true) : ab_Run ab_mt 83 184 ls st w = ab_Run ab_mt 83 185 ls (ab_gv (ls 0) :: st) w := E_loadr (n := 1) rfl h
set_option maxRecDepth 30000 in
theorem e_83_185 {ls : ab_L} {st : List Value} {w : ab_W} (h : ab_isI (ls 5) = true) : ab_Run ab_mt 83 185 ls st w = ab_Run ab_mt 83 187 ls (ab_gv (ls 5) :: st) w := E_loadi (n := 2) rfl h
set_option maxRecDepth 30000 in
theorem e_83_187 {ls : ab_L} {st : List Value} {w : ab_W} : ab_Run ab_mt 83 187 ls st w = ab_Run ab_mt 83 188 ls (.int (nI 3) :: st) w := E_push (n := 1) rfl
set_option maxRecDepth 30000 in
theorem e_83_188 {ls : ab_L} {st : List Value} {w : ab_W} {v0 v1 v2 : Value} (h1 : ab_recv ab_mt 12 [v0, v1, v2] w.2 = true) (h8 : ab_w8 st = true) : ab_Run ab_mt 83 188 ls (v2 :: v1 :: v0 :: st) w = ab_aft 12 83 188 ls st (ab_Cl 12 [v0, v1, v2] w) := E_call3 rfl h1 h8
set_option maxRecDepth 30000 in
theorem e_83_191 {ls : ab_L} {st : List Value} {w : ab_W} (h : ab_isL (ls 6) = true) (h2 : (ls 7).isNone = true) : ab_Run ab_mt 83 191 ls st w = ab_Run ab_mt 83 193 ls (ab_gv (ls 6) :: st) w := E_loadl (n := 2) rfl h h2
set_option maxRecDepth 30000 in
theorem e_83_193 {ls : ab_L} {st : List Value} {w : ab_W} {x y : Int64} : ab_Run ab_mt 83 193 ls (.long y :: .long x :: st) w = ab_Run ab_mt 83 194 ls (.int (lg_cmp x y) :: st) w := E_lcmp rfl
set_option maxRecDepth 30000 in
theorem e_83_194 {ls : ab_L} {st : List Value} {w : ab_W} {x : Int32} : ab_Run ab_mt 83 194 ls (.int x :: st) w = if x = 0 then ab_Run ab_mt 83 197 ls st w else ab_Run ab_mt 83 211 ls st w := E_if_ne rfl
set_option maxRecDepth 30000 in
theorem e_83_197 {ls : ab_L} {st : List Value} {w : ab_W} (h : ab_isR (ls 0) = true) : ab_Run ab_mt 83 197 ls st w = ab_Run ab_mt 83 198 ls (ab_gv (ls 0) :: st) w := E_loadr (n := 1) rfl h
set_option maxRecDepth 30000 in
theorem e_83_198 {ls : ab_L} {st : List Value} {w : ab_W} (h : ab_isI (ls 5) = true) : ab_Run ab_mt 83 198 ls st w = ab_Run ab_mt 83 200 ls (ab_gv (ls 5) :: st) w := E_loadi (n := 2) rfl h
set_option maxRecDepth 30000 in
theorem e_83_200 {ls : ab_L} {st : List Value} {w : ab_W} : ab_Run ab_mt 83 200 ls st w = ab_Run ab_mt 83 201 ls (.int (nI 4) :: st) w := E_push (n := 1) rfl
set_option maxRecDepth 30000 in
theorem e_83_201 {ls : ab_L} {st : List Value} {w : ab_W} {v0 v1 v2 : Value} (h1 : ab_recv ab_mt 12 [v0, v1, v2] w.2 = true) (h8 : ab_w8 st = true) : ab_Run ab_mt 83 201 ls (v2 :: v1 :: v0 :: st) w = ab_aft 12 83 201 ls st (ab_Cl 12 [v0, v1, v2] w) := E_call3 rfl h1 h8
set_option maxRecDepth 30000 in
theorem e_83_204 {ls : ab_L} {st : List Value} {w : ab_W} (h : ab_isI (ls 8) = true) : ab_Run ab_mt 83 204 ls st w = ab_Run ab_mt 83 206 ls (ab_gv (ls 8) :: st) w := E_loadi (n := 2) rfl h
set_option maxRecDepth 30000 in
theorem e_83_206 {ls : ab_L} {st : List Value} {w : ab_W} {x : Int32} : ab_Run ab_mt 83 206 ls (.int x :: st) w = ab_Run ab_mt 83 207 ls (.long x.toInt64 :: st) w := E_i2l rfl
set_option maxRecDepth 30000 in
theorem e_83_207 {ls : ab_L} {st : List Value} {w : ab_W} {x y : Int64} : ab_Run ab_mt 83 207 ls (.long y :: .long x :: st) w = ab_Run ab_mt 83 208 ls (.int (lg_cmp x y) :: st) w := E_lcmp rfl
set_option maxRecDepth 30000 in
theorem e_83_208 {ls : ab_L} {st : List Value} {w : ab_W} {x : Int32} : ab_Run ab_mt 83 208 ls (.int x :: st) w = if x = 0 then ab_Run ab_mt 83 213 ls st w else ab_Run ab_mt 83 211 ls st w := E_if_eq rfl
set_option maxRecDepth 30000 in
theorem e_83_211 {ls : ab_L} {st : List Value} {w : ab_W} : ab_Run ab_mt 83 211 ls st w = ab_Run ab_mt 83 212 ls (.int (nI 0) :: st) w := E_push (n := 1) rfl
set_option maxRecDepth 30000 in
theorem e_83_212 {ls : ab_L} {w : ab_W} {x : Int32} (h : ab_fitr 2 (.int x) = true) : ab_Run ab_mt 83 212 ls [.int x] w = some (.inl (some (.int x)), w) := E_retz rfl h
set_option maxRecDepth 30000 in
theorem e_83_213 {ls : ab_L} {st : List Value} {w : ab_W} (h : ab_isI (ls 5) = true) : ab_Run ab_mt 83 213 ls st w = ab_Run ab_mt 83 216 (ab_l1 ls 5 (.int (ab_gi (ls 5) + (nI 1)))) st w := E_iinc rfl h
set_option maxRecDepth 30000 in
theorem e_83_216 {ls : ab_L} {st : List Value} {w : ab_W} : ab_Run ab_mt 83 216 ls st w = ab_Run ab_mt 83 66 ls st w := E_goto rfl
set_option maxRecDepth 30000 in
theorem e_83_219 {ls : ab_L} {st : List Value} {w : ab_W} (h : ab_isR (ls 0) = true) : ab_Run ab_mt 83 219 ls st w = ab_Run ab_mt 83 220 ls (ab_gv (ls 0) :: st) w := E_loadr (n := 1) rfl h
set_option maxRecDepth 30000 in
theorem e_83_220 {ls : ab_L} {st : List Value} {w : ab_W} : ab_Run ab_mt 83 220 ls st w = ab_Run ab_mt 83 221 ls (.int (nI 2) :: st) w := E_push (n := 1) rfl
set_option maxRecDepth 30000 in
theorem e_83_221 {ls : ab_L} {st : List Value} {w : ab_W} {v0 v1 : Value} (h1 : ab_recv ab_mt 14 [v0, v1] w.2 = true) (h8 : ab_w8 st = true) : ab_Run ab_mt 83 221 ls (v1 :: v0 :: st) w = ab_aft 14 83 221 ls st (ab_Cl 14 [v0, v1] w) := E_call2 rfl h1 h8
set_option maxRecDepth 30000 in
theorem e_83_224 {ls : ab_L} {st : List Value} {w : ab_W} (h : ab_isR (ls 1) = true) : ab_Run ab_mt 83 224 ls st w = ab_Run ab_mt 83 225 ls (ab_gv (ls 1) :: st) w := E_loadr (n := 1) rfl h
set_option maxRecDepth 30000 in
theorem e_83_225 {ls : ab_L} {st : List Value} {w : ab_W} : ab_Run ab_mt 83 225 ls st w = ab_Run ab_mt 83 226 ls (.int (nI 1) :: st) w := E_push (n := 1) rfl
set_option maxRecDepth 30000 in
theorem e_83_226 {ls : ab_L} {st : List Value} {w : ab_W} {a : Nat} {i : Int32} (h : ab_inI i (w.2 a) = true) : ab_Run ab_mt 83 226 ls (.int i :: .ref a :: st) w = ab_Run ab_mt 83 227 ls (.int (ab_aI i.toNatClampNeg (w.2 a)) :: st) w := E_iald rfl h
set_option maxRecDepth 30000 in
theorem e_83_227 {ls : ab_L} {st : List Value} {w : ab_W} {x : Int32} : ab_Run ab_mt 83 227 ls (.int x :: st) w = ab_Run ab_mt 83 228 ls (.long x.toInt64 :: st) w := E_i2l rfl
set_option maxRecDepth 30000 in
theorem e_83_228 {ls : ab_L} {st : List Value} {w : ab_W} {x y : Int64} : ab_Run ab_mt 83 228 ls (.long y :: .long x :: st) w = ab_Run ab_mt 83 229 ls (.int (lg_cmp x y) :: st) w := E_lcmp rfl
set_option maxRecDepth 30000 in
theorem e_83_229 {ls : ab_L} {st : List Value} {w : ab_W} {x : Int32} : ab_Run ab_mt 83 229 ls (.int x :: st) w = if x = 0 then ab_Run ab_mt 83 232 ls st w else ab_Run ab_mt 83 249 ls st w := E_if_ne rfl
set_option maxRecDepth 30000 in
theorem e_83_232 {ls : ab_L} {st : List Value} {w : ab_W} (h : ab_isR (ls 0) = true) : ab_Run ab_mt 83 232 ls st w = ab_Run ab_mt 83 233 ls (ab_gv (ls 0) :: st) w := E_loadr (n := 1) rfl h
set_option maxRecDepth 30000 in
theorem e_83_233 {ls : ab_L} {st : List Value} {w : ab_W} : ab_Run ab_mt 83 233 ls st w = ab_Run ab_mt 83 234 ls (.int (nI 3) :: st) w := E_push (n := 1) rfl
set_option maxRecDepth 30000 in
theorem e_83_234 {ls : ab_L} {st : List Value} {w : ab_W} {v0 v1 : Value} (h1 : ab_recv ab_mt 14 [v0, v1] w.2 = true) (h8 : ab_w8 st = true) : ab_Run ab_mt 83 234 ls (v1 :: v0 :: st) w = ab_aft 14 83 234 ls st (ab_Cl 14 [v0, v1] w) := E_call2 rfl h1 h8
set_option maxRecDepth 30000 in
theorem e_83_237 {ls : ab_L} {st : List Value} {w : ab_W} (h : ab_isR (ls 1) = true) : ab_Run ab_mt 83 237 ls st w = ab_Run ab_mt 83 238 ls (ab_gv (ls 1) :: st) w := E_loadr (n := 1) rfl h
set_option maxRecDepth 30000 in
theorem e_83_238 {ls : ab_L} {st : List Value} {w : ab_W} : ab_Run ab_mt 83 238 ls st w = ab_Run ab_mt 83 239 ls (.int (nI 2) :: st) w := E_push (n := 1) rfl
set_option maxRecDepth 30000 in
theorem e_83_239 {ls : ab_L} {st : List Value} {w : ab_W} {a : Nat} {i : Int32} (h : ab_inI i (w.2 a) = true) : ab_Run ab_mt 83 239 ls (.int i :: .ref a :: st) w = ab_Run ab_mt 83 240 ls (.int (ab_aI i.toNatClampNeg (w.2 a)) :: st) w := E_iald rfl h
set_option maxRecDepth 30000 in
theorem e_83_240 {ls : ab_L} {st : List Value} {w : ab_W} {x : Int32} : ab_Run ab_mt 83 240 ls (.int x :: st) w = ab_Run ab_mt 83 241 ls (.long x.toInt64 :: st) w := E_i2l rfl
set_option maxRecDepth 30000 in
theorem e_83_241 {ls : ab_L} {st : List Value} {w : ab_W} {x y : Int64} : ab_Run ab_mt 83 241 ls (.long y :: .long x :: st) w = ab_Run ab_mt 83 242 ls (.int (lg_cmp x y) :: st) w := E_lcmp rfl
set_option maxRecDepth 30000 in
theorem e_83_242 {ls : ab_L} {st : List Value} {w : ab_W} {x : Int32} : ab_Run ab_mt 83 242 ls (.int x :: st) w = if x = 0 then ab_Run ab_mt 83 245 ls st w else ab_Run ab_mt 83 249 ls st w := E_if_ne rfl
set_option maxRecDepth 30000 in
theorem e_83_245 {ls : ab_L} {st : List Value} {w : ab_W} : ab_Run ab_mt 83 245 ls st w = ab_Run ab_mt 83 246 ls (.int (nI 1) :: st) w := E_push (n := 1) rfl
set_option maxRecDepth 30000 in
theorem e_83_246 {ls : ab_L} {st : List Value} {w : ab_W} : ab_Run ab_mt 83 246 ls st w = ab_Run ab_mt 83 250 ls st w := E_goto rfl
set_option maxRecDepth 30000 in
theorem e_83_249 {ls : ab_L} {st : List Value} {w : ab_W} : ab_Run ab_mt 83 249 ls st w = ab_Run ab_mt 83 250 ls (.int (nI 0) :: st) w := E_push (n := 1) rfl
set_option maxRecDepth 30000 in
theorem e_83_250 {ls : ab_L} {w : ab_W} {x : Int32} (h : ab_fitr 2 (.int x) = true) : ab_Run ab_mt 83 250 ls [.int x] w = some (.inl (some (.int x)), w) := E_retz rfl h
theorem rv_83 {σ : ab_S} {x0 : Nat} {x1 : Nat} {x2 : Nat} {x3 : Nat} {x4 : Nat} : ab_recv ab_mt 83 [.ref x0, .ref x1, .ref x2, .ref x3, .ref x4] σ = true := rfl
theorem x_83_34 {ls : ab_L} {rest : List Value} {E : Nat} {w : ab_W} : ab_aft 11 83 34 ls rest (some (.inr E, w)) = some (.inr E, w) := ab_aft_x rfl rfl (by unfold ab_hand; rfl)
theorem x_83_81 {ls : ab_L} {rest : List Value} {E : Nat} {w : ab_W} : ab_aft 74 83 81 ls rest (some (.inr E, w)) = some (.inr E, w) := ab_aft_x rfl rfl (by unfold ab_hand; rfl)
theorem x_83_107 {ls : ab_L} {rest : List Value} {E : Nat} {w : ab_W} : ab_aft 74 83 107 ls rest (some (.inr E, w)) = some (.inr E, w) := ab_aft_x rfl rfl (by unfold ab_hand; rfl)
theorem x_83_158 {ls : ab_L} {rest : List Value} {E : Nat} {w : ab_W} : ab_aft 12 83 158 ls rest (some (.inr E, w)) = some (.inr E, w) := ab_aft_x rfl rfl (by unfold ab_hand; rfl)
theorem x_83_188 {ls : ab_L} {rest : List Value} {E : Nat} {w : ab_W} : ab_aft 12 83 188 ls rest (some (.inr E, w)) = some (.inr E, w) := ab_aft_x rfl rfl (by unfold ab_hand; rfl)
theorem x_83_201 {ls : ab_L} {rest : List Value} {E : Nat} {w : ab_W} : ab_aft 12 83 201 ls rest (some (.inr E, w)) = some (.inr E, w) := ab_aft_x rfl rfl (by unfold ab_hand; rfl)
theorem x_83_221 {ls : ab_L} {rest : List Value} {E : Nat} {w : ab_W} : ab_aft 14 83 221 ls rest (some (.inr E, w)) = some (.inr E, w) := ab_aft_x rfl rfl (by unfold ab_hand; rfl)
theorem x_83_234 {ls : ab_L} {rest : List Value} {E : Nat} {w : ab_W} : ab_aft 14 83 234 ls rest (some (.inr E, w)) = some (.inr E, w) := ab_aft_x rfl rfl (by unfold ab_hand; rfl)
set_option maxRecDepth 30000 in
theorem e_84_0 {ls : ab_L} {st : List Value} {w : ab_W} (h : ab_isR (ls 2) = true) : ab_Run ab_mt 84 0 ls st w = ab_Run ab_mt 84 1 ls (ab_gv (ls 2) :: st) w := E_loadr (n := 1) rfl h
set_option maxRecDepth 30000 in
theorem e_84_1 {ls : ab_L} {st : List Value} {w : ab_W} : ab_Run ab_mt 84 1 ls st w = ab_Run ab_mt 84 2 ls (.int (nI 0) :: st) w := E_push (n := 1) rfl
set_option maxRecDepth 30000 in
theorem e_84_2 {ls : ab_L} {st : List Value} {w : ab_W} {a : Nat} {i : Int32} (h : ab_inI i (w.2 a) = true) : ab_Run ab_mt 84 2 ls (.int i :: .ref a :: st) w = ab_Run ab_mt 84 3 ls (.int (ab_aI i.toNatClampNeg (w.2 a)) :: st) w := E_iald rfl h
set_option maxRecDepth 30000 in
theorem e_84_3 {ls : ab_L} {st : List Value} {w : ab_W} (h : ab_isR (ls 2) = true) : ab_Run ab_mt 84 3 ls st w = ab_Run ab_mt 84 4 ls (ab_gv (ls 2) :: st) w := E_loadr (n := 1) rfl h
set_option maxRecDepth 30000 in
theorem e_84_4 {ls : ab_L} {st : List Value} {w : ab_W} (h : ab_isR (ls 3) = true) : ab_Run ab_mt 84 4 ls st w = ab_Run ab_mt 84 5 ls (ab_gv (ls 3) :: st) w := E_loadr (n := 1) rfl h
set_option maxRecDepth 30000 in
theorem e_84_5 {ls : ab_L} {st : List Value} {w : ab_W} (h : ab_isR (ls 4) = true) : ab_Run ab_mt 84 5 ls st w = ab_Run ab_mt 84 7 ls (ab_gv (ls 4) :: st) w := E_loadr (n := 2) rfl h
set_option maxRecDepth 30000 in
theorem e_84_7 {ls : ab_L} {st : List Value} {w : ab_W} {v0 v1 v2 v3 : Value} (h1 : ab_recv ab_mt 70 [v0, v1, v2, v3] w.2 = true) (h8 : ab_w8 st = true) : ab_Run ab_mt 84 7 ls (v3 :: v2 :: v1 :: v0 :: st) w = ab_aft 70 84 7 ls st (ab_Cl 70 [v0, v1, v2, v3] w) := E_call4 rfl h1 h8
set_option maxRecDepth 30000 in
theorem e_84_10 {ls : ab_L} {st : List Value} {w : ab_W} {x : Int64} : ab_Run ab_mt 84 10 ls (.long x :: st) w = ab_Run ab_mt 84 12 (ab_l2 ls 5 (.long x)) st w := E_storl (n := 2) rfl
set_option maxRecDepth 30000 in
theorem e_84_12 {ls : ab_L} {st : List Value} {w : ab_W} (h : ab_isL (ls 5) = true) (h2 : (ls 6).isNone = true) : ab_Run ab_mt 84 12 ls st w = ab_Run ab_mt 84 14 ls (ab_gv (ls 5) :: st) w := E_loadl (n := 2) rfl h h2
set_option maxRecDepth 30000 in
theorem e_84_14 {ls : ab_L} {st : List Value} {w : ab_W} : ab_Run ab_mt 84 14 ls st w = ab_Run ab_mt 84 15 ls (.long (lN 0) :: st) w := E_push (n := 1) rfl
set_option maxRecDepth 30000 in
theorem e_84_15 {ls : ab_L} {st : List Value} {w : ab_W} {x y : Int64} : ab_Run ab_mt 84 15 ls (.long y :: .long x :: st) w = ab_Run ab_mt 84 16 ls (.int (lg_cmp x y) :: st) w := E_lcmp rfl
set_option maxRecDepth 30000 in
theorem e_84_16 {ls : ab_L} {st : List Value} {w : ab_W} {x : Int32} : ab_Run ab_mt 84 16 ls (.int x :: st) w = if x = 0 then ab_Run ab_mt 84 19 ls st w else ab_Run ab_mt 84 23 ls st w := E_if_ne rfl
set_option maxRecDepth 30000 in
theorem e_84_19 {ls : ab_L} {st : List Value} {w : ab_W} : ab_Run ab_mt 84 19 ls st w = ab_Run ab_mt 84 20 ls (.long (lN 0) :: st) w := E_push (n := 1) rfl
set_option maxRecDepth 30000 in
theorem e_84_20 {ls : ab_L} {st : List Value} {w : ab_W} : ab_Run ab_mt 84 20 ls st w = ab_Run ab_mt 84 48 ls st w := E_goto rfl
set_option maxRecDepth 30000 in
theorem e_84_23 {ls : ab_L} {st : List Value} {w : ab_W} (h : ab_isI (ls 1) = true) : ab_Run ab_mt 84 23 ls st w = ab_Run ab_mt 84 24 ls (ab_gv (ls 1) :: st) w := E_loadi (n := 1) rfl h
set_option maxRecDepth 30000 in
theorem e_84_24 {ls : ab_L} {st : List Value} {w : ab_W} : ab_Run ab_mt 84 24 ls st w = ab_Run ab_mt 84 27 ls (.int (nI 1000) :: st) w := E_push (n := 3) rfl
set_option maxRecDepth 30000 in
theorem e_84_27 {ls : ab_L} {st : List Value} {w : ab_W} {v0 v1 : Value} (h1 : ab_recv ab_mt 64 [v0, v1] w.2 = true) (h8 : ab_w8 st = true) : ab_Run ab_mt 84 27 ls (v1 :: v0 :: st) w = ab_aft 64 84 27 ls st (ab_Cl 64 [v0, v1] w) := E_call2 rfl h1 h8
set_option maxRecDepth 30000 in
theorem e_84_30 {ls : ab_L} {st : List Value} {w : ab_W} {x : Int32} : ab_Run ab_mt 84 30 ls (.int x :: st) w = ab_Run ab_mt 84 31 ls (.long x.toInt64 :: st) w := E_i2l rfl
set_option maxRecDepth 30000 in
theorem e_84_31 {ls : ab_L} {st : List Value} {w : ab_W} (h : ab_isL (ls 5) = true) (h2 : (ls 6).isNone = true) : ab_Run ab_mt 84 31 ls st w = ab_Run ab_mt 84 33 ls (ab_gv (ls 5) :: st) w := E_loadl (n := 2) rfl h h2
set_option maxRecDepth 30000 in
theorem e_84_33 {ls : ab_L} {st : List Value} {w : ab_W} {x y : Int64} : ab_Run ab_mt 84 33 ls (.long y :: .long x :: st) w = ab_Run ab_mt 84 34 ls (.long (x * y) :: st) w := E_lb (f := fun x y => x * y) rfl
set_option maxRecDepth 30000 in
theorem e_84_34 {ls : ab_L} {st : List Value} {w : ab_W} : ab_Run ab_mt 84 34 ls st w = ab_Run ab_mt 84 37 ls (.long (lN 999) :: st) w := E_push (n := 3) rfl
set_option maxRecDepth 30000 in
theorem e_84_37 {ls : ab_L} {st : List Value} {w : ab_W} {x y : Int64} (h : ¬ y = 0) : ab_Run ab_mt 84 37 ls (.long y :: .long x :: st) w = ab_Run ab_mt 84 38 ls (.long (x / y) :: st) w := E_ldv (f := fun x y => x / y) rfl h
set_option maxRecDepth 30000 in
theorem e_84_38 {ls : ab_L} {st : List Value} {w : ab_W} (h : ab_isI (ls 1) = true) : ab_Run ab_mt 84 38 ls st w = ab_Run ab_mt 84 39 ls (ab_gv (ls 1) :: st) w := E_loadi (n := 1) rfl h
set_option maxRecDepth 30000 in
theorem e_84_39 {ls : ab_L} {st : List Value} {w : ab_W} : ab_Run ab_mt 84 39 ls st w = ab_Run ab_mt 84 41 ls (.int (nI 11) :: st) w := E_push (n := 2) rfl
set_option maxRecDepth 30000 in
theorem e_84_41 {ls : ab_L} {st : List Value} {w : ab_W} {x y : Int32} : ab_Run ab_mt 84 41 ls (.int y :: .int x :: st) w = ab_Run ab_mt 84 42 ls (.int (x >>> (y &&& 31)) :: st) w := E_ib (f := fun x y => x >>> (y &&& 31)) rfl
set_option maxRecDepth 30000 in
theorem e_84_42 {ls : ab_L} {st : List Value} {w : ab_W} : ab_Run ab_mt 84 42 ls st w = ab_Run ab_mt 84 43 ls (.int (nI 2) :: st) w := E_push (n := 1) rfl
set_option maxRecDepth 30000 in
theorem e_84_43 {ls : ab_L} {st : List Value} {w : ab_W} {v0 v1 : Value} (h1 : ab_recv ab_mt 64 [v0, v1] w.2 = true) (h8 : ab_w8 st = true) : ab_Run ab_mt 84 43 ls (v1 :: v0 :: st) w = ab_aft 64 84 43 ls st (ab_Cl 64 [v0, v1] w) := E_call2 rfl h1 h8
set_option maxRecDepth 30000 in
theorem e_84_46 {ls : ab_L} {st : List Value} {w : ab_W} {x : Int32} : ab_Run ab_mt 84 46 ls (.int x :: st) w = ab_Run ab_mt 84 47 ls (.long x.toInt64 :: st) w := E_i2l rfl
set_option maxRecDepth 30000 in
theorem e_84_47 {ls : ab_L} {st : List Value} {w : ab_W} {x y : Int64} : ab_Run ab_mt 84 47 ls (.long y :: .long x :: st) w = ab_Run ab_mt 84 48 ls (.long (x - y) :: st) w := E_lb (f := fun x y => x - y) rfl
set_option maxRecDepth 30000 in
theorem e_84_48 {ls : ab_L} {st : List Value} {w : ab_W} {x : Int64} : ab_Run ab_mt 84 48 ls (.long x :: st) w = ab_Run ab_mt 84 50 (ab_l2 ls 7 (.long x)) st w := E_storl (n := 2) rfl
set_option maxRecDepth 30000 in
theorem e_84_50 {ls : ab_L} {st : List Value} {w : ab_W} (h : ab_isL (ls 7) = true) (h2 : (ls 8).isNone = true) : ab_Run ab_mt 84 50 ls st w = ab_Run ab_mt 84 52 ls (ab_gv (ls 7) :: st) w := E_loadl (n := 2) rfl h h2
set_option maxRecDepth 30000 in
theorem e_84_52 {ls : ab_L} {st : List Value} {w : ab_W} : ab_Run ab_mt 84 52 ls st w = ab_Run ab_mt 84 53 ls (.long (lN 0) :: st) w := E_push (n := 1) rfl
set_option maxRecDepth 30000 in
theorem e_84_53 {ls : ab_L} {st : List Value} {w : ab_W} {x y : Int64} : ab_Run ab_mt 84 53 ls (.long y :: .long x :: st) w = ab_Run ab_mt 84 54 ls (.int (lg_cmp x y) :: st) w := E_lcmp rfl
set_option maxRecDepth 30000 in
theorem e_84_54 {ls : ab_L} {st : List Value} {w : ab_W} {x : Int32} : ab_Run ab_mt 84 54 ls (.int x :: st) w = if x < 0 then ab_Run ab_mt 84 65 ls st w else ab_Run ab_mt 84 57 ls st w := E_if_lt rfl
set_option maxRecDepth 30000 in
theorem e_84_57 {ls : ab_L} {st : List Value} {w : ab_W} (h : ab_isL (ls 7) = true) (h2 : (ls 8).isNone = true) : ab_Run ab_mt 84 57 ls st w = ab_Run ab_mt 84 59 ls (ab_gv (ls 7) :: st) w := E_loadl (n := 2) rfl h h2
set_option maxRecDepth 30000 in
theorem e_84_59 {ls : ab_L} {st : List Value} {w : ab_W} (h : ab_isL (ls 5) = true) (h2 : (ls 6).isNone = true) : ab_Run ab_mt 84 59 ls st w = ab_Run ab_mt 84 61 ls (ab_gv (ls 5) :: st) w := E_loadl (n := 2) rfl h h2
set_option maxRecDepth 30000 in
theorem e_84_61 {ls : ab_L} {st : List Value} {w : ab_W} {x y : Int64} : ab_Run ab_mt 84 61 ls (.long y :: .long x :: st) w = ab_Run ab_mt 84 62 ls (.int (lg_cmp x y) :: st) w := E_lcmp rfl
set_option maxRecDepth 30000 in
theorem e_84_62 {ls : ab_L} {st : List Value} {w : ab_W} {x : Int32} : ab_Run ab_mt 84 62 ls (.int x :: st) w = if x < 0 then ab_Run ab_mt 84 104 ls st w else ab_Run ab_mt 84 65 ls st w := E_if_lt rfl
set_option maxRecDepth 30000 in
theorem e_84_65 {ls : ab_L} {st : List Value} {w : ab_W} (h : ab_isR (ls 0) = true) : ab_Run ab_mt 84 65 ls st w = ab_Run ab_mt 84 66 ls (ab_gv (ls 0) :: st) w := E_loadr (n := 1) rfl h
set_option maxRecDepth 30000 in
theorem e_84_66 {ls : ab_L} {st : List Value} {w : ab_W} (h : ab_isL (ls 7) = true) (h2 : (ls 8).isNone = true) : ab_Run ab_mt 84 66 ls st w = ab_Run ab_mt 84 68 ls (ab_gv (ls 7) :: st) w := E_loadl (n := 2) rfl h h2
set_option maxRecDepth 30000 in
theorem e_84_68 {ls : ab_L} {st : List Value} {w : ab_W} : ab_Run ab_mt 84 68 ls st w = ab_Run ab_mt 84 69 ls (.int (nI 0) :: st) w := E_push (n := 1) rfl
set_option maxRecDepth 30000 in
theorem e_84_69 {ls : ab_L} {st : List Value} {w : ab_W} {v0 v1 v2 : Value} (h1 : ab_recv ab_mt 13 [v0, v1, v2] w.2 = true) (h8 : ab_w8 st = true) : ab_Run ab_mt 84 69 ls (v2 :: v1 :: v0 :: st) w = ab_aft 13 84 69 ls st (ab_Cl 13 [v0, v1, v2] w) := E_call3 rfl h1 h8
set_option maxRecDepth 30000 in
theorem e_84_72 {ls : ab_L} {st : List Value} {w : ab_W} : ab_Run ab_mt 84 72 ls st w = ab_Run ab_mt 84 73 ls (.int (-1) :: st) w := E_push (n := 1) rfl
set_option maxRecDepth 30000 in
theorem e_84_73 {ls : ab_L} {st : List Value} {w : ab_W} {x y : Int32} : ab_Run ab_mt 84 73 ls (.int y :: .int x :: st) w = if x = y then ab_Run ab_mt 84 76 ls st w else ab_Run ab_mt 84 102 ls st w := E_ic_ne rfl
set_option maxRecDepth 30000 in
theorem e_84_76 {ls : ab_L} {st : List Value} {w : ab_W} (h : ab_isR (ls 0) = true) : ab_Run ab_mt 84 76 ls st w = ab_Run ab_mt 84 77 ls (ab_gv (ls 0) :: st) w := E_loadr (n := 1) rfl h
set_option maxRecDepth 30000 in
theorem e_84_77 {ls : ab_L} {st : List Value} {w : ab_W} (h : ab_isL (ls 7) = true) (h2 : (ls 8).isNone = true) : ab_Run ab_mt 84 77 ls st w = ab_Run ab_mt 84 79 ls (ab_gv (ls 7) :: st) w := E_loadl (n := 2) rfl h h2
set_option maxRecDepth 30000 in
theorem e_84_79 {ls : ab_L} {st : List Value} {w : ab_W} : ab_Run ab_mt 84 79 ls st w = ab_Run ab_mt 84 80 ls (.int (nI 1) :: st) w := E_push (n := 1) rfl
set_option maxRecDepth 30000 in
theorem e_84_80 {ls : ab_L} {st : List Value} {w : ab_W} {v0 v1 v2 : Value} (h1 : ab_recv ab_mt 13 [v0, v1, v2] w.2 = true) (h8 : ab_w8 st = true) : ab_Run ab_mt 84 80 ls (v2 :: v1 :: v0 :: st) w = ab_aft 13 84 80 ls st (ab_Cl 13 [v0, v1, v2] w) := E_call3 rfl h1 h8
set_option maxRecDepth 30000 in
theorem e_84_83 {ls : ab_L} {st : List Value} {w : ab_W} : ab_Run ab_mt 84 83 ls st w = ab_Run ab_mt 84 84 ls (.int (-1) :: st) w := E_push (n := 1) rfl
set_option maxRecDepth 30000 in
theorem e_84_84 {ls : ab_L} {st : List Value} {w : ab_W} {x y : Int32} : ab_Run ab_mt 84 84 ls (.int y :: .int x :: st) w = if x = y then ab_Run ab_mt 84 87 ls st w else ab_Run ab_mt 84 102 ls st w := E_ic_ne rfl
set_option maxRecDepth 30000 in
theorem e_84_87 {ls : ab_L} {st : List Value} {w : ab_W} (h : ab_isR (ls 0) = true) : ab_Run ab_mt 84 87 ls st w = ab_Run ab_mt 84 88 ls (ab_gv (ls 0) :: st) w := E_loadr (n := 1) rfl h
set_option maxRecDepth 30000 in
theorem e_84_88 {ls : ab_L} {st : List Value} {w : ab_W} (h : ab_isL (ls 7) = true) (h2 : (ls 8).isNone = true) : ab_Run ab_mt 84 88 ls st w = ab_Run ab_mt 84 90 ls (ab_gv (ls 7) :: st) w := E_loadl (n := 2) rfl h h2
set_option maxRecDepth 30000 in
theorem e_84_90 {ls : ab_L} {st : List Value} {w : ab_W} : ab_Run ab_mt 84 90 ls st w = ab_Run ab_mt 84 91 ls (.int (nI 2) :: st) w := E_push (n := 1) rfl
set_option maxRecDepth 30000 in
theorem e_84_91 {ls : ab_L} {st : List Value} {w : ab_W} {v0 v1 v2 : Value} (h1 : ab_recv ab_mt 13 [v0, v1, v2] w.2 = true) (h8 : ab_w8 st = true) : ab_Run ab_mt 84 91 ls (v2 :: v1 :: v0 :: st) w = ab_aft 13 84 91 ls st (ab_Cl 13 [v0, v1, v2] w) := E_call3 rfl h1 h8
set_option maxRecDepth 30000 in
theorem e_84_94 {ls : ab_L} {st : List Value} {w : ab_W} : ab_Run ab_mt 84 94 ls st w = ab_Run ab_mt 84 95 ls (.int (-1) :: st) w := E_push (n := 1) rfl
set_option maxRecDepth 30000 in
theorem e_84_95 {ls : ab_L} {st : List Value} {w : ab_W} {x y : Int32} : ab_Run ab_mt 84 95 ls (.int y :: .int x :: st) w = if x = y then ab_Run ab_mt 84 98 ls st w else ab_Run ab_mt 84 102 ls st w := E_ic_ne rfl
set_option maxRecDepth 30000 in
theorem e_84_98 {ls : ab_L} {st : List Value} {w : ab_W} : ab_Run ab_mt 84 98 ls st w = ab_Run ab_mt 84 99 ls (.int (nI 1) :: st) w := E_push (n := 1) rfl
set_option maxRecDepth 30000 in
theorem e_84_99 {ls : ab_L} {st : List Value} {w : ab_W} : ab_Run ab_mt 84 99 ls st w = ab_Run ab_mt 84 103 ls st w := E_goto rfl
set_option maxRecDepth 30000 in
theorem e_84_102 {ls : ab_L} {st : List Value} {w : ab_W} : ab_Run ab_mt 84 102 ls st w = ab_Run ab_mt 84 103 ls (.int (nI 0) :: st) w := E_push (n := 1) rfl
set_option maxRecDepth 30000 in
theorem e_84_103 {ls : ab_L} {w : ab_W} {x : Int32} (h : ab_fitr 2 (.int x) = true) : ab_Run ab_mt 84 103 ls [.int x] w = some (.inl (some (.int x)), w) := E_retz rfl h
set_option maxRecDepth 30000 in
theorem e_84_104 {ls : ab_L} {st : List Value} {w : ab_W} (h : ab_isR (ls 2) = true) : ab_Run ab_mt 84 104 ls st w = ab_Run ab_mt 84 105 ls (ab_gv (ls 2) :: st) w := E_loadr (n := 1) rfl h
set_option maxRecDepth 30000 in
theorem e_84_105 {ls : ab_L} {st : List Value} {w : ab_W} : ab_Run ab_mt 84 105 ls st w = ab_Run ab_mt 84 106 ls (.int (nI 0) :: st) w := E_push (n := 1) rfl
set_option maxRecDepth 30000 in
theorem e_84_106 {ls : ab_L} {st : List Value} {w : ab_W} {a : Nat} {i : Int32} (h : ab_inI i (w.2 a) = true) : ab_Run ab_mt 84 106 ls (.int i :: .ref a :: st) w = ab_Run ab_mt 84 107 ls (.int (ab_aI i.toNatClampNeg (w.2 a)) :: st) w := E_iald rfl h
set_option maxRecDepth 30000 in
theorem e_84_107 {ls : ab_L} {st : List Value} {w : ab_W} (h : ab_isR (ls 3) = true) : ab_Run ab_mt 84 107 ls st w = ab_Run ab_mt 84 108 ls (ab_gv (ls 3) :: st) w := E_loadr (n := 1) rfl h
set_option maxRecDepth 30000 in
theorem e_84_108 {ls : ab_L} {st : List Value} {w : ab_W} {v0 v1 : Value} (h1 : ab_recv ab_mt 65 [v0, v1] w.2 = true) (h8 : ab_w8 st = true) : ab_Run ab_mt 84 108 ls (v1 :: v0 :: st) w = ab_aft 65 84 108 ls st (ab_Cl 65 [v0, v1] w) := E_call2 rfl h1 h8
set_option maxRecDepth 30000 in
theorem e_84_111 {ls : ab_L} {st : List Value} {w : ab_W} : ab_Run ab_mt 84 111 ls st w = ab_Run ab_mt 84 112 ls (.int (nI 1) :: st) w := E_push (n := 1) rfl
set_option maxRecDepth 30000 in
theorem e_84_112 {ls : ab_L} {st : List Value} {w : ab_W} {x y : Int32} : ab_Run ab_mt 84 112 ls (.int y :: .int x :: st) w = ab_Run ab_mt 84 113 ls (.int (x - y) :: st) w := E_ib (f := fun x y => x - y) rfl
set_option maxRecDepth 30000 in
theorem e_84_113 {ls : ab_L} {st : List Value} {w : ab_W} {x : Int32} : ab_Run ab_mt 84 113 ls (.int x :: st) w = ab_Run ab_mt 84 115 (ab_l1 ls 9 (.int x)) st w := E_stori (n := 2) rfl
set_option maxRecDepth 30000 in
theorem e_84_115 {ls : ab_L} {st : List Value} {w : ab_W} (h : ab_isI (ls 9) = true) : ab_Run ab_mt 84 115 ls st w = ab_Run ab_mt 84 117 ls (ab_gv (ls 9) :: st) w := E_loadi (n := 2) rfl h
set_option maxRecDepth 30000 in
theorem e_84_117 {ls : ab_L} {st : List Value} {w : ab_W} (h : ab_isR (ls 2) = true) : ab_Run ab_mt 84 117 ls st w = ab_Run ab_mt 84 118 ls (ab_gv (ls 2) :: st) w := E_loadr (n := 1) rfl h
set_option maxRecDepth 30000 in
theorem e_84_118 {ls : ab_L} {st : List Value} {w : ab_W} (h : ab_isR (ls 3) = true) : ab_Run ab_mt 84 118 ls st w = ab_Run ab_mt 84 119 ls (ab_gv (ls 3) :: st) w := E_loadr (n := 1) rfl h
set_option maxRecDepth 30000 in
theorem e_84_119 {ls : ab_L} {st : List Value} {w : ab_W} (h : ab_isR (ls 4) = true) : ab_Run ab_mt 84 119 ls st w = ab_Run ab_mt 84 121 ls (ab_gv (ls 4) :: st) w := E_loadr (n := 2) rfl h
set_option maxRecDepth 30000 in
theorem e_84_121 {ls : ab_L} {st : List Value} {w : ab_W} {v0 v1 v2 v3 : Value} (h1 : ab_recv ab_mt 72 [v0, v1, v2, v3] w.2 = true) (h8 : ab_w8 st = true) : ab_Run ab_mt 84 121 ls (v3 :: v2 :: v1 :: v0 :: st) w = ab_aft 72 84 121 ls st (ab_Cl 72 [v0, v1, v2, v3] w) := E_call4 rfl h1 h8
set_option maxRecDepth 30000 in
theorem e_84_124 {ls : ab_L} {st : List Value} {w : ab_W} (h : ab_isL (ls 7) = true) (h2 : (ls 8).isNone = true) : ab_Run ab_mt 84 124 ls st w = ab_Run ab_mt 84 126 ls (ab_gv (ls 7) :: st) w := E_loadl (n := 2) rfl h h2
set_option maxRecDepth 30000 in
theorem e_84_126 {ls : ab_L} {st : List Value} {w : ab_W} {x y : Int64} : ab_Run ab_mt 84 126 ls (.long y :: .long x :: st) w = ab_Run ab_mt 84 127 ls (.int (lg_cmp x y) :: st) w := E_lcmp rfl
set_option maxRecDepth 30000 in
theorem e_84_127 {ls : ab_L} {st : List Value} {w : ab_W} {x : Int32} : ab_Run ab_mt 84 127 ls (.int x :: st) w = if x ≤ 0 then ab_Run ab_mt 84 136 ls st w else ab_Run ab_mt 84 130 ls st w := E_if_le rfl
set_option maxRecDepth 30000 in
theorem e_84_130 {ls : ab_L} {st : List Value} {w : ab_W} (h : ab_isI (ls 9) = true) : ab_Run ab_mt 84 130 ls st w = ab_Run ab_mt 84 133 (ab_l1 ls 9 (.int (ab_gi (ls 9) + (-1)))) st w := E_iinc rfl h
set_option maxRecDepth 30000 in
theorem e_84_133 {ls : ab_L} {st : List Value} {w : ab_W} : ab_Run ab_mt 84 133 ls st w = ab_Run ab_mt 84 115 ls st w := E_goto rfl
set_option maxRecDepth 30000 in
theorem e_84_136 {ls : ab_L} {st : List Value} {w : ab_W} (h : ab_isL (ls 7) = true) (h2 : (ls 8).isNone = true) : ab_Run ab_mt 84 136 ls st w = ab_Run ab_mt 84 138 ls (ab_gv (ls 7) :: st) w := E_loadl (n := 2) rfl h h2
set_option maxRecDepth 30000 in
theorem e_84_138 {ls : ab_L} {st : List Value} {w : ab_W} (h : ab_isI (ls 9) = true) : ab_Run ab_mt 84 138 ls st w = ab_Run ab_mt 84 140 ls (ab_gv (ls 9) :: st) w := E_loadi (n := 2) rfl h
set_option maxRecDepth 30000 in
theorem e_84_140 {ls : ab_L} {st : List Value} {w : ab_W} (h : ab_isR (ls 2) = true) : ab_Run ab_mt 84 140 ls st w = ab_Run ab_mt 84 141 ls (ab_gv (ls 2) :: st) w := E_loadr (n := 1) rfl h
set_option maxRecDepth 30000 in
theorem e_84_141 {ls : ab_L} {st : List Value} {w : ab_W} (h : ab_isR (ls 3) = true) : ab_Run ab_mt 84 141 ls st w = ab_Run ab_mt 84 142 ls (ab_gv (ls 3) :: st) w := E_loadr (n := 1) rfl h
set_option maxRecDepth 30000 in
theorem e_84_142 {ls : ab_L} {st : List Value} {w : ab_W} (h : ab_isR (ls 4) = true) : ab_Run ab_mt 84 142 ls st w = ab_Run ab_mt 84 144 ls (ab_gv (ls 4) :: st) w := E_loadr (n := 2) rfl h
set_option maxRecDepth 30000 in
theorem e_84_144 {ls : ab_L} {st : List Value} {w : ab_W} {v0 v1 v2 v3 : Value} (h1 : ab_recv ab_mt 72 [v0, v1, v2, v3] w.2 = true) (h8 : ab_w8 st = true) : ab_Run ab_mt 84 144 ls (v3 :: v2 :: v1 :: v0 :: st) w = ab_aft 72 84 144 ls st (ab_Cl 72 [v0, v1, v2, v3] w) := E_call4 rfl h1 h8
set_option maxRecDepth 30000 in
theorem e_84_147 {ls : ab_L} {st : List Value} {w : ab_W} {x y : Int64} : ab_Run ab_mt 84 147 ls (.long y :: .long x :: st) w = ab_Run ab_mt 84 148 ls (.long (x - y) :: st) w := E_lb (f := fun x y => x - y) rfl
set_option maxRecDepth 30000 in
theorem e_84_148 {ls : ab_L} {st : List Value} {w : ab_W} {x : Int64} : ab_Run ab_mt 84 148 ls (.long x :: st) w = ab_Run ab_mt 84 150 (ab_l2 ls 10 (.long x)) st w := E_storl (n := 2) rfl
set_option maxRecDepth 30000 in
theorem e_84_150 {ls : ab_L} {st : List Value} {w : ab_W} (h : ab_isI (ls 9) = true) : ab_Run ab_mt 84 150 ls st w = ab_Run ab_mt 84 152 ls (ab_gv (ls 9) :: st) w := E_loadi (n := 2) rfl h
set_option maxRecDepth 30000 in
theorem e_84_152 {ls : ab_L} {st : List Value} {w : ab_W} (h : ab_isR (ls 2) = true) : ab_Run ab_mt 84 152 ls st w = ab_Run ab_mt 84 153 ls (ab_gv (ls 2) :: st) w := E_loadr (n := 1) rfl h
set_option maxRecDepth 30000 in
theorem e_84_153 {ls : ab_L} {st : List Value} {w : ab_W} (h : ab_isR (ls 3) = true) : ab_Run ab_mt 84 153 ls st w = ab_Run ab_mt 84 154 ls (ab_gv (ls 3) :: st) w := E_loadr (n := 1) rfl h
set_option maxRecDepth 30000 in
theorem e_84_154 {ls : ab_L} {st : List Value} {w : ab_W} (h : ab_isR (ls 4) = true) : ab_Run ab_mt 84 154 ls st w = ab_Run ab_mt 84 156 ls (ab_gv (ls 4) :: st) w := E_loadr (n := 2) rfl h
set_option maxRecDepth 30000 in
theorem e_84_156 {ls : ab_L} {st : List Value} {w : ab_W} {v0 v1 v2 v3 : Value} (h1 : ab_recv ab_mt 73 [v0, v1, v2, v3] w.2 = true) (h8 : ab_w8 st = true) : ab_Run ab_mt 84 156 ls (v3 :: v2 :: v1 :: v0 :: st) w = ab_aft 73 84 156 ls st (ab_Cl 73 [v0, v1, v2, v3] w) := E_call4 rfl h1 h8
set_option maxRecDepth 30000 in
theorem e_84_159 {ls : ab_L} {st : List Value} {w : ab_W} {x : Int64} : ab_Run ab_mt 84 159 ls (.long x :: st) w = ab_Run ab_mt 84 161 (ab_l2 ls 12 (.long x)) st w := E_storl (n := 2) rfl
set_option maxRecDepth 30000 in
theorem e_84_161 {ls : ab_L} {st : List Value} {w : ab_W} (h : ab_isL (ls 12) = true) (h2 : (ls 13).isNone = true) : ab_Run ab_mt 84 161 ls st w = ab_Run ab_mt 84 163 ls (ab_gv (ls 12) :: st) w := E_loadl (n := 2) rfl h h2
set_option maxRecDepth 30000 in
theorem e_84_163 {ls : ab_L} {st : List Value} {w : ab_W} : ab_Run ab_mt 84 163 ls st w = ab_Run ab_mt 84 164 ls (.long (lN 0) :: st) w := E_push (n := 1) rfl
set_option maxRecDepth 30000 in
theorem e_84_164 {ls : ab_L} {st : List Value} {w : ab_W} {x y : Int64} : ab_Run ab_mt 84 164 ls (.long y :: .long x :: st) w = ab_Run ab_mt 84 165 ls (.int (lg_cmp x y) :: st) w := E_lcmp rfl
set_option maxRecDepth 30000 in
theorem e_84_165 {ls : ab_L} {st : List Value} {w : ab_W} {x : Int32} : ab_Run ab_mt 84 165 ls (.int x :: st) w = if x = 0 then ab_Run ab_mt 84 168 ls st w else ab_Run ab_mt 84 174 ls st w := E_if_ne rfl
set_option maxRecDepth 30000 in
theorem e_84_168 {ls : ab_L} {st : List Value} {w : ab_W} : ab_Run ab_mt 84 168 ls st w = ab_Run ab_mt 84 171 ls (.long (lN 480) :: st) w := E_push (n := 3) rfl
set_option maxRecDepth 30000 in
theorem e_84_171 {ls : ab_L} {st : List Value} {w : ab_W} : ab_Run ab_mt 84 171 ls st w = ab_Run ab_mt 84 183 ls st w := E_goto rfl
set_option maxRecDepth 30000 in
theorem e_84_174 {ls : ab_L} {st : List Value} {w : ab_W} (h : ab_isL (ls 10) = true) (h2 : (ls 11).isNone = true) : ab_Run ab_mt 84 174 ls st w = ab_Run ab_mt 84 176 ls (ab_gv (ls 10) :: st) w := E_loadl (n := 2) rfl h h2
set_option maxRecDepth 30000 in
theorem e_84_176 {ls : ab_L} {st : List Value} {w : ab_W} : ab_Run ab_mt 84 176 ls st w = ab_Run ab_mt 84 179 ls (.long (lN 480) :: st) w := E_push (n := 3) rfl
set_option maxRecDepth 30000 in
theorem e_84_179 {ls : ab_L} {st : List Value} {w : ab_W} {x y : Int64} : ab_Run ab_mt 84 179 ls (.long y :: .long x :: st) w = ab_Run ab_mt 84 180 ls (.long (x * y) :: st) w := E_lb (f := fun x y => x * y) rfl
set_option maxRecDepth 30000 in
theorem e_84_180 {ls : ab_L} {st : List Value} {w : ab_W} (h : ab_isL (ls 12) = true) (h2 : (ls 13).isNone = true) : ab_Run ab_mt 84 180 ls st w = ab_Run ab_mt 84 182 ls (ab_gv (ls 12) :: st) w := E_loadl (n := 2) rfl h h2
set_option maxRecDepth 30000 in
theorem e_84_182 {ls : ab_L} {st : List Value} {w : ab_W} {x y : Int64} (h : ¬ y = 0) : ab_Run ab_mt 84 182 ls (.long y :: .long x :: st) w = ab_Run ab_mt 84 183 ls (.long (x / y) :: st) w := E_ldv (f := fun x y => x / y) rfl h
set_option maxRecDepth 30000 in
theorem e_84_183 {ls : ab_L} {st : List Value} {w : ab_W} {x : Int64} : ab_Run ab_mt 84 183 ls (.long x :: st) w = ab_Run ab_mt 84 185 (ab_l2 ls 14 (.long x)) st w := E_storl (n := 2) rfl
set_option maxRecDepth 30000 in
theorem e_84_185 {ls : ab_L} {st : List Value} {w : ab_W} (h : ab_isR (ls 0) = true) : ab_Run ab_mt 84 185 ls st w = ab_Run ab_mt 84 186 ls (ab_gv (ls 0) :: st) w := E_loadr (n := 1) rfl h
set_option maxRecDepth 30000 in
theorem e_84_186 {ls : ab_L} {st : List Value} {w : ab_W} (h : ab_isL (ls 7) = true) (h2 : (ls 8).isNone = true) : ab_Run ab_mt 84 186 ls st w = ab_Run ab_mt 84 188 ls (ab_gv (ls 7) :: st) w := E_loadl (n := 2) rfl h h2
set_option maxRecDepth 30000 in
theorem e_84_188 {ls : ab_L} {st : List Value} {w : ab_W} : ab_Run ab_mt 84 188 ls st w = ab_Run ab_mt 84 189 ls (.int (nI 0) :: st) w := E_push (n := 1) rfl
set_option maxRecDepth 30000 in
theorem e_84_189 {ls : ab_L} {st : List Value} {w : ab_W} {v0 v1 v2 : Value} (h1 : ab_recv ab_mt 13 [v0, v1, v2] w.2 = true) (h8 : ab_w8 st = true) : ab_Run ab_mt 84 189 ls (v2 :: v1 :: v0 :: st) w = ab_aft 13 84 189 ls st (ab_Cl 13 [v0, v1, v2] w) := E_call3 rfl h1 h8
set_option maxRecDepth 30000 in
theorem e_84_192 {ls : ab_L} {st : List Value} {w : ab_W} (h : ab_isI (ls 9) = true) : ab_Run ab_mt 84 192 ls st w = ab_Run ab_mt 84 194 ls (ab_gv (ls 9) :: st) w := E_loadi (n := 2) rfl h
set_option maxRecDepth 30000 in
theorem e_84_194 {ls : ab_L} {st : List Value} {w : ab_W} {x y : Int32} : ab_Run ab_mt 84 194 ls (.int y :: .int x :: st) w = if x = y then ab_Run ab_mt 84 197 ls st w else ab_Run ab_mt 84 253 ls st w := E_ic_ne rfl
set_option maxRecDepth 30000 in
theorem e_84_197 {ls : ab_L} {st : List Value} {w : ab_W} (h : ab_isR (ls 0) = true) : ab_Run ab_mt 84 197 ls st w = ab_Run ab_mt 84 198 ls (ab_gv (ls 0) :: st) w := E_loadr (n := 1) rfl h
set_option maxRecDepth 30000 in
theorem e_84_198 {ls : ab_L} {st : List Value} {w : ab_W} (h : ab_isL (ls 7) = true) (h2 : (ls 8).isNone = true) : ab_Run ab_mt 84 198 ls st w = ab_Run ab_mt 84 200 ls (ab_gv (ls 7) :: st) w := E_loadl (n := 2) rfl h h2
set_option maxRecDepth 30000 in
theorem e_84_200 {ls : ab_L} {st : List Value} {w : ab_W} : ab_Run ab_mt 84 200 ls st w = ab_Run ab_mt 84 201 ls (.int (nI 1) :: st) w := E_push (n := 1) rfl
set_option maxRecDepth 30000 in
theorem e_84_201 {ls : ab_L} {st : List Value} {w : ab_W} {v0 v1 v2 : Value} (h1 : ab_recv ab_mt 13 [v0, v1, v2] w.2 = true) (h8 : ab_w8 st = true) : ab_Run ab_mt 84 201 ls (v2 :: v1 :: v0 :: st) w = ab_aft 13 84 201 ls st (ab_Cl 13 [v0, v1, v2] w) := E_call3 rfl h1 h8
set_option maxRecDepth 30000 in
theorem e_84_204 {ls : ab_L} {st : List Value} {w : ab_W} {x : Int32} : ab_Run ab_mt 84 204 ls (.int x :: st) w = ab_Run ab_mt 84 205 ls (.long x.toInt64 :: st) w := E_i2l rfl
set_option maxRecDepth 30000 in
theorem e_84_205 {ls : ab_L} {st : List Value} {w : ab_W} (h : ab_isL (ls 14) = true) (h2 : (ls 15).isNone = true) : ab_Run ab_mt 84 205 ls st w = ab_Run ab_mt 84 207 ls (ab_gv (ls 14) :: st) w := E_loadl (n := 2) rfl h h2
set_option maxRecDepth 30000 in
theorem e_84_207 {ls : ab_L} {st : List Value} {w : ab_W} : ab_Run ab_mt 84 207 ls st w = ab_Run ab_mt 84 210 ls (.long (lN 480) :: st) w := E_push (n := 3) rfl
set_option maxRecDepth 30000 in
theorem e_84_210 {ls : ab_L} {st : List Value} {w : ab_W} {x y : Int64} : ab_Run ab_mt 84 210 ls (.long y :: .long x :: st) w = ab_Run ab_mt 84 211 ls (.int (lg_cmp x y) :: st) w := E_lcmp rfl
set_option maxRecDepth 30000 in
theorem e_84_211 {ls : ab_L} {st : List Value} {w : ab_W} {x : Int32} : ab_Run ab_mt 84 211 ls (.int x :: st) w = if x ≤ 0 then ab_Run ab_mt 84 220 ls st w else ab_Run ab_mt 84 214 ls st w := E_if_le rfl
set_option maxRecDepth 30000 in
theorem e_84_214 {ls : ab_L} {st : List Value} {w : ab_W} : ab_Run ab_mt 84 214 ls st w = ab_Run ab_mt 84 217 ls (.long (lN 480) :: st) w := E_push (n := 3) rfl
set_option maxRecDepth 30000 in
theorem e_84_217 {ls : ab_L} {st : List Value} {w : ab_W} : ab_Run ab_mt 84 217 ls st w = ab_Run ab_mt 84 222 ls st w := E_goto rfl
set_option maxRecDepth 30000 in
theorem e_84_220 {ls : ab_L} {st : List Value} {w : ab_W} (h : ab_isL (ls 14) = true) (h2 : (ls 15).isNone = true) : ab_Run ab_mt 84 220 ls st w = ab_Run ab_mt 84 222 ls (ab_gv (ls 14) :: st) w := E_loadl (n := 2) rfl h h2
set_option maxRecDepth 30000 in
theorem e_84_222 {ls : ab_L} {st : List Value} {w : ab_W} {x y : Int64} : ab_Run ab_mt 84 222 ls (.long y :: .long x :: st) w = ab_Run ab_mt 84 223 ls (.int (lg_cmp x y) :: st) w := E_lcmp rfl
set_option maxRecDepth 30000 in
theorem e_84_223 {ls : ab_L} {st : List Value} {w : ab_W} {x : Int32} : ab_Run ab_mt 84 223 ls (.int x :: st) w = if x = 0 then ab_Run ab_mt 84 226 ls st w else ab_Run ab_mt 84 253 ls st w := E_if_ne rfl
set_option maxRecDepth 30000 in
theorem e_84_226 {ls : ab_L} {st : List Value} {w : ab_W} (h : ab_isR (ls 0) = true) : ab_Run ab_mt 84 226 ls st w = ab_Run ab_mt 84 227 ls (ab_gv (ls 0) :: st) w := E_loadr (n := 1) rfl h
set_option maxRecDepth 30000 in
theorem e_84_227 {ls : ab_L} {st : List Value} {w : ab_W} (h : ab_isL (ls 7) = true) (h2 : (ls 8).isNone = true) : ab_Run ab_mt 84 227 ls st w = ab_Run ab_mt 84 229 ls (ab_gv (ls 7) :: st) w := E_loadl (n := 2) rfl h h2
set_option maxRecDepth 30000 in
theorem e_84_229 {ls : ab_L} {st : List Value} {w : ab_W} : ab_Run ab_mt 84 229 ls st w = ab_Run ab_mt 84 230 ls (.int (nI 2) :: st) w := E_push (n := 1) rfl
set_option maxRecDepth 30000 in
theorem e_84_230 {ls : ab_L} {st : List Value} {w : ab_W} {v0 v1 v2 : Value} (h1 : ab_recv ab_mt 13 [v0, v1, v2] w.2 = true) (h8 : ab_w8 st = true) : ab_Run ab_mt 84 230 ls (v2 :: v1 :: v0 :: st) w = ab_aft 13 84 230 ls st (ab_Cl 13 [v0, v1, v2] w) := E_call3 rfl h1 h8
set_option maxRecDepth 30000 in
theorem e_84_233 {ls : ab_L} {st : List Value} {w : ab_W} (h : ab_isL (ls 10) = true) (h2 : (ls 11).isNone = true) : ab_Run ab_mt 84 233 ls st w = ab_Run ab_mt 84 235 ls (ab_gv (ls 10) :: st) w := E_loadl (n := 2) rfl h h2
set_option maxRecDepth 30000 in
theorem e_84_235 {ls : ab_L} {st : List Value} {w : ab_W} (h : ab_isL (ls 12) = true) (h2 : (ls 13).isNone = true) : ab_Run ab_mt 84 235 ls st w = ab_Run ab_mt 84 237 ls (ab_gv (ls 12) :: st) w := E_loadl (n := 2) rfl h h2
set_option maxRecDepth 30000 in
theorem e_84_237 {ls : ab_L} {st : List Value} {w : ab_W} {x y : Int64} : ab_Run ab_mt 84 237 ls (.long y :: .long x :: st) w = ab_Run ab_mt 84 238 ls (.int (lg_cmp x y) :: st) w := E_lcmp rfl
set_option maxRecDepth 30000 in
theorem e_84_238 {ls : ab_L} {st : List Value} {w : ab_W} {x : Int32} : ab_Run ab_mt 84 238 ls (.int x :: st) w = if x < 0 then ab_Run ab_mt 84 245 ls st w else ab_Run ab_mt 84 241 ls st w := E_if_lt rfl
set_option maxRecDepth 30000 in
theorem e_84_241 {ls : ab_L} {st : List Value} {w : ab_W} : ab_Run ab_mt 84 241 ls st w = ab_Run ab_mt 84 242 ls (.int (nI 1) :: st) w := E_push (n := 1) rfl
set_option maxRecDepth 30000 in
theorem e_84_242 {ls : ab_L} {st : List Value} {w : ab_W} : ab_Run ab_mt 84 242 ls st w = ab_Run ab_mt 84 246 ls st w := E_goto rfl
set_option maxRecDepth 30000 in
theorem e_84_245 {ls : ab_L} {st : List Value} {w : ab_W} : ab_Run ab_mt 84 245 ls st w = ab_Run ab_mt 84 246 ls (.int (nI 0) :: st) w := E_push (n := 1) rfl
set_option maxRecDepth 30000 in
theorem e_84_246 {ls : ab_L} {st : List Value} {w : ab_W} {x y : Int32} : ab_Run ab_mt 84 246 ls (.int y :: .int x :: st) w = if x = y then ab_Run ab_mt 84 249 ls st w else ab_Run ab_mt 84 253 ls st w := E_ic_ne rfl
set_option maxRecDepth 30000 in
theorem e_84_249 {ls : ab_L} {st : List Value} {w : ab_W} : ab_Run ab_mt 84 249 ls st w = ab_Run ab_mt 84 250 ls (.int (nI 1) :: st) w := E_push (n := 1) rfl
set_option maxRecDepth 30000 in
theorem e_84_250 {ls : ab_L} {st : List Value} {w : ab_W} : ab_Run ab_mt 84 250 ls st w = ab_Run ab_mt 84 254 ls st w := E_goto rfl
set_option maxRecDepth 30000 in
theorem e_84_253 {ls : ab_L} {st : List Value} {w : ab_W} : ab_Run ab_mt 84 253 ls st w = ab_Run ab_mt 84 254 ls (.int (nI 0) :: st) w := E_push (n := 1) rfl
set_option maxRecDepth 30000 in
theorem e_84_254 {ls : ab_L} {w : ab_W} {x : Int32} (h : ab_fitr 2 (.int x) = true) : ab_Run ab_mt 84 254 ls [.int x] w = some (.inl (some (.int x)), w) := E_retz rfl h
theorem rv_84 {σ : ab_S} {x0 : Nat} {x1 : Int32} {x2 : Nat} {x3 : Nat} {x4 : Nat} : ab_recv ab_mt 84 [.ref x0, .int x1, .ref x2, .ref x3, .ref x4] σ = true := rfl
theorem x_84_69 {ls : ab_L} {rest : List Value} {E : Nat} {w : ab_W} : ab_aft 13 84 69 ls rest (some (.inr E, w)) = some (.inr E, w) := ab_aft_x rfl rfl (by unfold ab_hand; rfl)
theorem x_84_80 {ls : ab_L} {rest : List Value} {E : Nat} {w : ab_W} : ab_aft 13 84 80 ls rest (some (.inr E, w)) = some (.inr E, w) := ab_aft_x rfl rfl (by unfold ab_hand; rfl)
theorem x_84_91 {ls : ab_L} {rest : List Value} {E : Nat} {w : ab_W} : ab_aft 13 84 91 ls rest (some (.inr E, w)) = some (.inr E, w) := ab_aft_x rfl rfl (by unfold ab_hand; rfl)
theorem x_84_121 {ls : ab_L} {rest : List Value} {E : Nat} {w : ab_W} : ab_aft 72 84 121 ls rest (some (.inr E, w)) = some (.inr E, w) := ab_aft_x rfl rfl (by unfold ab_hand; rfl)
theorem x_84_144 {ls : ab_L} {rest : List Value} {E : Nat} {w : ab_W} : ab_aft 72 84 144 ls rest (some (.inr E, w)) = some (.inr E, w) := ab_aft_x rfl rfl (by unfold ab_hand; rfl)
theorem x_84_156 {ls : ab_L} {rest : List Value} {E : Nat} {w : ab_W} : ab_aft 73 84 156 ls rest (some (.inr E, w)) = some (.inr E, w) := ab_aft_x rfl rfl (by unfold ab_hand; rfl)
theorem x_84_189 {ls : ab_L} {rest : List Value} {E : Nat} {w : ab_W} : ab_aft 13 84 189 ls rest (some (.inr E, w)) = some (.inr E, w) := ab_aft_x rfl rfl (by unfold ab_hand; rfl)
theorem x_84_201 {ls : ab_L} {rest : List Value} {E : Nat} {w : ab_W} : ab_aft 13 84 201 ls rest (some (.inr E, w)) = some (.inr E, w) := ab_aft_x rfl rfl (by unfold ab_hand; rfl)
theorem x_84_230 {ls : ab_L} {rest : List Value} {E : Nat} {w : ab_W} : ab_aft 13 84 230 ls rest (some (.inr E, w)) = some (.inr E, w) := ab_aft_x rfl rfl (by unfold ab_hand; rfl)
set_option maxRecDepth 30000 in
theorem e_85_0 {ls : ab_L} {st : List Value} {w : ab_W} (h : ab_isI (ls 1) = true) : ab_Run ab_mt 85 0 ls st w = ab_Run ab_mt 85 1 ls (ab_gv (ls 1) :: st) w := E_loadi (n := 1) rfl h
set_option maxRecDepth 30000 in
theorem e_85_1 {ls : ab_L} {st : List Value} {w : ab_W} : ab_Run ab_mt 85 1 ls st w = ab_Run ab_mt 85 3 ls (.int (nI 24) :: st) w := E_push (n := 2) rfl
set_option maxRecDepth 30000 in
theorem e_85_3 {ls : ab_L} {st : List Value} {w : ab_W} {x y : Int32} : ab_Run ab_mt 85 3 ls (.int y :: .int x :: st) w = ab_Run ab_mt 85 4 ls (.int (x >>> (y &&& 31)) :: st) w := E_ib (f := fun x y => x >>> (y &&& 31)) rfl
set_option maxRecDepth 30000 in
theorem e_85_4 {ls : ab_L} {st : List Value} {w : ab_W} : ab_Run ab_mt 85 4 ls st w = ab_Run ab_mt 85 6 ls (.int (nI 12) :: st) w := E_push (n := 2) rfl
set_option maxRecDepth 30000 in
theorem e_85_6 {ls : ab_L} {st : List Value} {w : ab_W} {v0 v1 : Value} (h1 : ab_recv ab_mt 64 [v0, v1] w.2 = true) (h8 : ab_w8 st = true) : ab_Run ab_mt 85 6 ls (v1 :: v0 :: st) w = ab_aft 64 85 6 ls st (ab_Cl 64 [v0, v1] w) := E_call2 rfl h1 h8
set_option maxRecDepth 30000 in
theorem e_85_9 {ls : ab_L} {st : List Value} {w : ab_W} {x : Int32} : ab_Run ab_mt 85 9 ls (.int x :: st) w = ab_Run ab_mt 85 11 (ab_l1 ls 7 (.int x)) st w := E_stori (n := 2) rfl
set_option maxRecDepth 30000 in
theorem e_85_11 {ls : ab_L} {st : List Value} {w : ab_W} (h : ab_isI (ls 7) = true) : ab_Run ab_mt 85 11 ls st w = ab_Run ab_mt 85 13 ls (ab_gv (ls 7) :: st) w := E_loadi (n := 2) rfl h
set_option maxRecDepth 30000 in
theorem e_85_13 {ls : ab_L} {st : List Value} {w : ab_W} : ab_Run ab_mt 85 13 ls st w = ab_Run ab_mt 85 14 ls (.int (nI 2) :: st) w := E_push (n := 1) rfl
set_option maxRecDepth 30000 in
theorem e_85_14 {ls : ab_L} {st : List Value} {w : ab_W} {x y : Int32} : ab_Run ab_mt 85 14 ls (.int y :: .int x :: st) w = if x < y then ab_Run ab_mt 85 23 ls st w else ab_Run ab_mt 85 17 ls st w := E_ic_lt rfl
set_option maxRecDepth 30000 in
theorem e_85_17 {ls : ab_L} {st : List Value} {w : ab_W} (h : ab_isR (ls 3) = true) : ab_Run ab_mt 85 17 ls st w = ab_Run ab_mt 85 18 ls (ab_gv (ls 3) :: st) w := E_loadr (n := 1) rfl h
set_option maxRecDepth 30000 in
theorem e_85_18 {ls : ab_L} {st : List Value} {w : ab_W} : ab_Run ab_mt 85 18 ls st w = ab_Run ab_mt 85 19 ls (.int (nI 0) :: st) w := E_push (n := 1) rfl
set_option maxRecDepth 30000 in
theorem e_85_19 {ls : ab_L} {st : List Value} {w : ab_W} {a : Nat} {i : Int32} (h : ab_inI i (w.2 a) = true) : ab_Run ab_mt 85 19 ls (.int i :: .ref a :: st) w = ab_Run ab_mt 85 20 ls (.int (ab_aI i.toNatClampNeg (w.2 a)) :: st) w := E_iald rfl h
set_option maxRecDepth 30000 in
theorem e_85_20 {ls : ab_L} {st : List Value} {w : ab_W} {x : Int32} : ab_Run ab_mt 85 20 ls (.int x :: st) w = if x = 0 then ab_Run ab_mt 85 23 ls st w else ab_Run ab_mt 85 33 ls st w := E_if_ne rfl
set_option maxRecDepth 30000 in
theorem e_85_23 {ls : ab_L} {st : List Value} {w : ab_W} (h : ab_isR (ls 0) = true) : ab_Run ab_mt 85 23 ls st w = ab_Run ab_mt 85 24 ls (ab_gv (ls 0) :: st) w := E_loadr (n := 1) rfl h
set_option maxRecDepth 30000 in
theorem e_85_24 {ls : ab_L} {st : List Value} {w : ab_W} (h : ab_isI (ls 1) = true) : ab_Run ab_mt 85 24 ls st w = ab_Run ab_mt 85 25 ls (ab_gv (ls 1) :: st) w := E_loadi (n := 1) rfl h
set_option maxRecDepth 30000 in
theorem e_85_25 {ls : ab_L} {st : List Value} {w : ab_W} (h : ab_isI (ls 2) = true) : ab_Run ab_mt 85 25 ls st w = ab_Run ab_mt 85 26 ls (ab_gv (ls 2) :: st) w := E_loadi (n := 1) rfl h
set_option maxRecDepth 30000 in
theorem e_85_26 {ls : ab_L} {st : List Value} {w : ab_W} (h : ab_isR (ls 3) = true) : ab_Run ab_mt 85 26 ls st w = ab_Run ab_mt 85 27 ls (ab_gv (ls 3) :: st) w := E_loadr (n := 1) rfl h
set_option maxRecDepth 30000 in
theorem e_85_27 {ls : ab_L} {st : List Value} {w : ab_W} (h : ab_isR (ls 4) = true) : ab_Run ab_mt 85 27 ls st w = ab_Run ab_mt 85 29 ls (ab_gv (ls 4) :: st) w := E_loadr (n := 2) rfl h
set_option maxRecDepth 30000 in
theorem e_85_29 {ls : ab_L} {st : List Value} {w : ab_W} {v0 v1 v2 v3 v4 : Value} (h1 : ab_recv ab_mt 78 [v0, v1, v2, v3, v4] w.2 = true) (h8 : ab_w8 st = true) : ab_Run ab_mt 85 29 ls (v4 :: v3 :: v2 :: v1 :: v0 :: st) w = ab_aft 78 85 29 ls st (ab_Cl 78 [v0, v1, v2, v3, v4] w) := E_call5 rfl h1 h8
set_option maxRecDepth 30000 in
theorem e_85_32 {ls : ab_L} {w : ab_W} {x : Int32} (h : ab_fitr 2 (.int x) = true) : ab_Run ab_mt 85 32 ls [.int x] w = some (.inl (some (.int x)), w) := E_retz rfl h
set_option maxRecDepth 30000 in
theorem e_85_33 {ls : ab_L} {st : List Value} {w : ab_W} (h : ab_isI (ls 7) = true) : ab_Run ab_mt 85 33 ls st w = ab_Run ab_mt 85 35 ls (ab_gv (ls 7) :: st) w := E_loadi (n := 2) rfl h
set_option maxRecDepth 30000 in
theorem e_85_35 {ls : ab_L} {st : List Value} {w : ab_W} : ab_Run ab_mt 85 35 ls st w = ab_Run ab_mt 85 36 ls (.int (nI 5) :: st) w := E_push (n := 1) rfl
set_option maxRecDepth 30000 in
theorem e_85_36 {ls : ab_L} {st : List Value} {w : ab_W} {x y : Int32} : ab_Run ab_mt 85 36 ls (.int y :: .int x :: st) w = if y ≤ x then ab_Run ab_mt 85 51 ls st w else ab_Run ab_mt 85 39 ls st w := E_ic_ge rfl
set_option maxRecDepth 30000 in
theorem e_85_39 {ls : ab_L} {st : List Value} {w : ab_W} (h : ab_isR (ls 0) = true) : ab_Run ab_mt 85 39 ls st w = ab_Run ab_mt 85 40 ls (ab_gv (ls 0) :: st) w := E_loadr (n := 1) rfl h
set_option maxRecDepth 30000 in
theorem e_85_40 {ls : ab_L} {st : List Value} {w : ab_W} (h : ab_isI (ls 1) = true) : ab_Run ab_mt 85 40 ls st w = ab_Run ab_mt 85 41 ls (ab_gv (ls 1) :: st) w := E_loadi (n := 1) rfl h
set_option maxRecDepth 30000 in
theorem e_85_41 {ls : ab_L} {st : List Value} {w : ab_W} (h : ab_isI (ls 2) = true) : ab_Run ab_mt 85 41 ls st w = ab_Run ab_mt 85 42 ls (ab_gv (ls 2) :: st) w := E_loadi (n := 1) rfl h
set_option maxRecDepth 30000 in
theorem e_85_42 {ls : ab_L} {st : List Value} {w : ab_W} (h : ab_isR (ls 3) = true) : ab_Run ab_mt 85 42 ls st w = ab_Run ab_mt 85 43 ls (ab_gv (ls 3) :: st) w := E_loadr (n := 1) rfl h
set_option maxRecDepth 30000 in
theorem e_85_43 {ls : ab_L} {st : List Value} {w : ab_W} (h : ab_isR (ls 4) = true) : ab_Run ab_mt 85 43 ls st w = ab_Run ab_mt 85 45 ls (ab_gv (ls 4) :: st) w := E_loadr (n := 2) rfl h
set_option maxRecDepth 30000 in
theorem e_85_45 {ls : ab_L} {st : List Value} {w : ab_W} (h : ab_isR (ls 6) = true) : ab_Run ab_mt 85 45 ls st w = ab_Run ab_mt 85 47 ls (ab_gv (ls 6) :: st) w := E_loadr (n := 2) rfl h
set_option maxRecDepth 30000 in
theorem e_85_47 {ls : ab_L} {st : List Value} {w : ab_W} {v0 v1 v2 v3 v4 v5 : Value} (h1 : ab_recv ab_mt 81 [v0, v1, v2, v3, v4, v5] w.2 = true) (h8 : ab_w8 st = true) : ab_Run ab_mt 85 47 ls (v5 :: v4 :: v3 :: v2 :: v1 :: v0 :: st) w = ab_aft 81 85 47 ls st (ab_Cl 81 [v0, v1, v2, v3, v4, v5] w) := E_call6 rfl h1 h8
set_option maxRecDepth 30000 in
theorem e_85_50 {ls : ab_L} {w : ab_W} {x : Int32} (h : ab_fitr 2 (.int x) = true) : ab_Run ab_mt 85 50 ls [.int x] w = some (.inl (some (.int x)), w) := E_retz rfl h
set_option maxRecDepth 30000 in
theorem e_85_51 {ls : ab_L} {st : List Value} {w : ab_W} (h : ab_isI (ls 7) = true) : ab_Run ab_mt 85 51 ls st w = ab_Run ab_mt 85 53 ls (ab_gv (ls 7) :: st) w := E_loadi (n := 2) rfl h
set_option maxRecDepth 30000 in
theorem e_85_53 {ls : ab_L} {st : List Value} {w : ab_W} : ab_Run ab_mt 85 53 ls st w = ab_Run ab_mt 85 55 ls (.int (nI 8) :: st) w := E_push (n := 2) rfl
set_option maxRecDepth 30000 in
theorem e_85_55 {ls : ab_L} {st : List Value} {w : ab_W} {x y : Int32} : ab_Run ab_mt 85 55 ls (.int y :: .int x :: st) w = if y ≤ x then ab_Run ab_mt 85 70 ls st w else ab_Run ab_mt 85 58 ls st w := E_ic_ge rfl
set_option maxRecDepth 30000 in
theorem e_85_58 {ls : ab_L} {st : List Value} {w : ab_W} (h : ab_isR (ls 0) = true) : ab_Run ab_mt 85 58 ls st w = ab_Run ab_mt 85 59 ls (ab_gv (ls 0) :: st) w := E_loadr (n := 1) rfl h
set_option maxRecDepth 30000 in
theorem e_85_59 {ls : ab_L} {st : List Value} {w : ab_W} (h : ab_isI (ls 1) = true) : ab_Run ab_mt 85 59 ls st w = ab_Run ab_mt 85 60 ls (ab_gv (ls 1) :: st) w := E_loadi (n := 1) rfl h
set_option maxRecDepth 30000 in
theorem e_85_60 {ls : ab_L} {st : List Value} {w : ab_W} (h : ab_isI (ls 2) = true) : ab_Run ab_mt 85 60 ls st w = ab_Run ab_mt 85 61 ls (ab_gv (ls 2) :: st) w := E_loadi (n := 1) rfl h
set_option maxRecDepth 30000 in
theorem e_85_61 {ls : ab_L} {st : List Value} {w : ab_W} (h : ab_isR (ls 3) = true) : ab_Run ab_mt 85 61 ls st w = ab_Run ab_mt 85 62 ls (ab_gv (ls 3) :: st) w := E_loadr (n := 1) rfl h
set_option maxRecDepth 30000 in
theorem e_85_62 {ls : ab_L} {st : List Value} {w : ab_W} (h : ab_isR (ls 4) = true) : ab_Run ab_mt 85 62 ls st w = ab_Run ab_mt 85 64 ls (ab_gv (ls 4) :: st) w := E_loadr (n := 2) rfl h
set_option maxRecDepth 30000 in
theorem e_85_64 {ls : ab_L} {st : List Value} {w : ab_W} (h : ab_isR (ls 5) = true) : ab_Run ab_mt 85 64 ls st w = ab_Run ab_mt 85 66 ls (ab_gv (ls 5) :: st) w := E_loadr (n := 2) rfl h
set_option maxRecDepth 30000 in
theorem e_85_66 {ls : ab_L} {st : List Value} {w : ab_W} {v0 v1 v2 v3 v4 v5 : Value} (h1 : ab_recv ab_mt 79 [v0, v1, v2, v3, v4, v5] w.2 = true) (h8 : ab_w8 st = true) : ab_Run ab_mt 85 66 ls (v5 :: v4 :: v3 :: v2 :: v1 :: v0 :: st) w = ab_aft 79 85 66 ls st (ab_Cl 79 [v0, v1, v2, v3, v4, v5] w) := E_call6 rfl h1 h8
set_option maxRecDepth 30000 in
theorem e_85_69 {ls : ab_L} {w : ab_W} {x : Int32} (h : ab_fitr 2 (.int x) = true) : ab_Run ab_mt 85 69 ls [.int x] w = some (.inl (some (.int x)), w) := E_retz rfl h
set_option maxRecDepth 30000 in
theorem e_85_70 {ls : ab_L} {st : List Value} {w : ab_W} (h : ab_isI (ls 7) = true) : ab_Run ab_mt 85 70 ls st w = ab_Run ab_mt 85 72 ls (ab_gv (ls 7) :: st) w := E_loadi (n := 2) rfl h
set_option maxRecDepth 30000 in
theorem e_85_72 {ls : ab_L} {st : List Value} {w : ab_W} : ab_Run ab_mt 85 72 ls st w = ab_Run ab_mt 85 74 ls (.int (nI 10) :: st) w := E_push (n := 2) rfl
set_option maxRecDepth 30000 in
theorem e_85_74 {ls : ab_L} {st : List Value} {w : ab_W} {x y : Int32} : ab_Run ab_mt 85 74 ls (.int y :: .int x :: st) w = if y ≤ x then ab_Run ab_mt 85 89 ls st w else ab_Run ab_mt 85 77 ls st w := E_ic_ge rfl
set_option maxRecDepth 30000 in
theorem e_85_77 {ls : ab_L} {st : List Value} {w : ab_W} (h : ab_isR (ls 0) = true) : ab_Run ab_mt 85 77 ls st w = ab_Run ab_mt 85 78 ls (ab_gv (ls 0) :: st) w := E_loadr (n := 1) rfl h
set_option maxRecDepth 30000 in
theorem e_85_78 {ls : ab_L} {st : List Value} {w : ab_W} (h : ab_isI (ls 1) = true) : ab_Run ab_mt 85 78 ls st w = ab_Run ab_mt 85 79 ls (ab_gv (ls 1) :: st) w := E_loadi (n := 1) rfl h
set_option maxRecDepth 30000 in
theorem e_85_79 {ls : ab_L} {st : List Value} {w : ab_W} (h : ab_isI (ls 2) = true) : ab_Run ab_mt 85 79 ls st w = ab_Run ab_mt 85 80 ls (ab_gv (ls 2) :: st) w := E_loadi (n := 1) rfl h
set_option maxRecDepth 30000 in
theorem e_85_80 {ls : ab_L} {st : List Value} {w : ab_W} (h : ab_isR (ls 3) = true) : ab_Run ab_mt 85 80 ls st w = ab_Run ab_mt 85 81 ls (ab_gv (ls 3) :: st) w := E_loadr (n := 1) rfl h
set_option maxRecDepth 30000 in
theorem e_85_81 {ls : ab_L} {st : List Value} {w : ab_W} (h : ab_isR (ls 4) = true) : ab_Run ab_mt 85 81 ls st w = ab_Run ab_mt 85 83 ls (ab_gv (ls 4) :: st) w := E_loadr (n := 2) rfl h
set_option maxRecDepth 30000 in
theorem e_85_83 {ls : ab_L} {st : List Value} {w : ab_W} (h : ab_isR (ls 6) = true) : ab_Run ab_mt 85 83 ls st w = ab_Run ab_mt 85 85 ls (ab_gv (ls 6) :: st) w := E_loadr (n := 2) rfl h
set_option maxRecDepth 30000 in
theorem e_85_85 {ls : ab_L} {st : List Value} {w : ab_W} {v0 v1 v2 v3 v4 v5 : Value} (h1 : ab_recv ab_mt 80 [v0, v1, v2, v3, v4, v5] w.2 = true) (h8 : ab_w8 st = true) : ab_Run ab_mt 85 85 ls (v5 :: v4 :: v3 :: v2 :: v1 :: v0 :: st) w = ab_aft 80 85 85 ls st (ab_Cl 80 [v0, v1, v2, v3, v4, v5] w) := E_call6 rfl h1 h8
set_option maxRecDepth 30000 in
theorem e_85_88 {ls : ab_L} {w : ab_W} {x : Int32} (h : ab_fitr 2 (.int x) = true) : ab_Run ab_mt 85 88 ls [.int x] w = some (.inl (some (.int x)), w) := E_retz rfl h
set_option maxRecDepth 30000 in
theorem e_85_89 {ls : ab_L} {st : List Value} {w : ab_W} (h : ab_isI (ls 7) = true) : ab_Run ab_mt 85 89 ls st w = ab_Run ab_mt 85 91 ls (ab_gv (ls 7) :: st) w := E_loadi (n := 2) rfl h
set_option maxRecDepth 30000 in
theorem e_85_91 {ls : ab_L} {st : List Value} {w : ab_W} : ab_Run ab_mt 85 91 ls st w = ab_Run ab_mt 85 93 ls (.int (nI 10) :: st) w := E_push (n := 2) rfl
set_option maxRecDepth 30000 in
theorem e_85_93 {ls : ab_L} {st : List Value} {w : ab_W} {x y : Int32} : ab_Run ab_mt 85 93 ls (.int y :: .int x :: st) w = if x = y then ab_Run ab_mt 85 96 ls st w else ab_Run ab_mt 85 172 ls st w := E_ic_ne rfl
set_option maxRecDepth 30000 in
theorem e_85_96 {ls : ab_L} {st : List Value} {w : ab_W} (h : ab_isI (ls 1) = true) : ab_Run ab_mt 85 96 ls st w = ab_Run ab_mt 85 97 ls (ab_gv (ls 1) :: st) w := E_loadi (n := 1) rfl h
set_option maxRecDepth 30000 in
theorem e_85_97 {ls : ab_L} {st : List Value} {w : ab_W} (h : ab_isR (ls 3) = true) : ab_Run ab_mt 85 97 ls st w = ab_Run ab_mt 85 98 ls (ab_gv (ls 3) :: st) w := E_loadr (n := 1) rfl h
set_option maxRecDepth 30000 in
theorem e_85_98 {ls : ab_L} {st : List Value} {w : ab_W} : ab_Run ab_mt 85 98 ls st w = ab_Run ab_mt 85 99 ls (.int (nI 0) :: st) w := E_push (n := 1) rfl
set_option maxRecDepth 30000 in
theorem e_85_99 {ls : ab_L} {st : List Value} {w : ab_W} {a : Nat} {i : Int32} (h : ab_inI i (w.2 a) = true) : ab_Run ab_mt 85 99 ls (.int i :: .ref a :: st) w = ab_Run ab_mt 85 100 ls (.int (ab_aI i.toNatClampNeg (w.2 a)) :: st) w := E_iald rfl h
set_option maxRecDepth 30000 in
theorem e_85_100 {ls : ab_L} {st : List Value} {w : ab_W} {v0 v1 : Value} (h1 : ab_recv ab_mt 64 [v0, v1] w.2 = true) (h8 : ab_w8 st = true) : ab_Run ab_mt 85 100 ls (v1 :: v0 :: st) w = ab_aft 64 85 100 ls st (ab_Cl 64 [v0, v1] w) := E_call2 rfl h1 h8
set_option maxRecDepth 30000 in
theorem e_85_103 {ls : ab_L} {st : List Value} {w : ab_W} {x : Int32} : ab_Run ab_mt 85 103 ls (.int x :: st) w = ab_Run ab_mt 85 105 (ab_l1 ls 8 (.int x)) st w := E_stori (n := 2) rfl
set_option maxRecDepth 30000 in
theorem e_85_105 {ls : ab_L} {st : List Value} {w : ab_W} (h : ab_isR (ls 3) = true) : ab_Run ab_mt 85 105 ls st w = ab_Run ab_mt 85 106 ls (ab_gv (ls 3) :: st) w := E_loadr (n := 1) rfl h
set_option maxRecDepth 30000 in
theorem e_85_106 {ls : ab_L} {st : List Value} {w : ab_W} : ab_Run ab_mt 85 106 ls st w = ab_Run ab_mt 85 107 ls (.int (nI 0) :: st) w := E_push (n := 1) rfl
set_option maxRecDepth 30000 in
theorem e_85_107 {ls : ab_L} {st : List Value} {w : ab_W} {x : Nat} {y : Int32} : ab_Run ab_mt 85 107 ls (.int y :: .ref x :: st) w = ab_Run ab_mt 85 108 ls (.int y :: .ref x :: .int y :: .ref x :: st) w := E_dup2 rfl
set_option maxRecDepth 30000 in
theorem e_85_108 {ls : ab_L} {st : List Value} {w : ab_W} {a : Nat} {i : Int32} (h : ab_inI i (w.2 a) = true) : ab_Run ab_mt 85 108 ls (.int i :: .ref a :: st) w = ab_Run ab_mt 85 109 ls (.int (ab_aI i.toNatClampNeg (w.2 a)) :: st) w := E_iald rfl h
set_option maxRecDepth 30000 in
theorem e_85_109 {ls : ab_L} {st : List Value} {w : ab_W} : ab_Run ab_mt 85 109 ls st w = ab_Run ab_mt 85 110 ls (.int (nI 1) :: st) w := E_push (n := 1) rfl
set_option maxRecDepth 30000 in
theorem e_85_110 {ls : ab_L} {st : List Value} {w : ab_W} {x y : Int32} : ab_Run ab_mt 85 110 ls (.int y :: .int x :: st) w = ab_Run ab_mt 85 111 ls (.int (x - y) :: st) w := E_ib (f := fun x y => x - y) rfl
set_option maxRecDepth 30000 in
theorem e_85_111 {ls : ab_L} {st : List Value} {w : ab_W} {a : Nat} {i x : Int32} (h : ab_inW i (w.2 a) = true) : ab_Run ab_mt 85 111 ls (.int x :: .int i :: .ref a :: st) w = ab_Run ab_mt 85 112 ls st (w.1, ab_up w.2 a (ab_sI i.toNatClampNeg x (w.2 a))) := E_iast rfl h
set_option maxRecDepth 30000 in
theorem e_85_112 {ls : ab_L} {st : List Value} {w : ab_W} : ab_Run ab_mt 85 112 ls st w = ab_Run ab_mt 85 113 ls (.int (nI 5) :: st) w := E_push (n := 1) rfl
set_option maxRecDepth 30000 in
theorem e_85_113 {ls : ab_L} {st : List Value} {w : ab_W} (h : ab_isI (ls 8) = true) : ab_Run ab_mt 85 113 ls st w = ab_Run ab_mt 85 115 ls (ab_gv (ls 8) :: st) w := E_loadi (n := 2) rfl h
set_option maxRecDepth 30000 in
theorem e_85_115 {ls : ab_L} {st : List Value} {w : ab_W} {x y : Int32} : ab_Run ab_mt 85 115 ls (.int y :: .int x :: st) w = ab_Run ab_mt 85 116 ls (.int (x * y) :: st) w := E_ib (f := fun x y => x * y) rfl
set_option maxRecDepth 30000 in
theorem e_85_116 {ls : ab_L} {st : List Value} {w : ab_W} {x : Int32} : ab_Run ab_mt 85 116 ls (.int x :: st) w = ab_Run ab_mt 85 118 (ab_l1 ls 9 (.int x)) st w := E_stori (n := 2) rfl
set_option maxRecDepth 30000 in
theorem e_85_118 {ls : ab_L} {st : List Value} {w : ab_W} (h : ab_isI (ls 9) = true) : ab_Run ab_mt 85 118 ls st w = ab_Run ab_mt 85 120 ls (ab_gv (ls 9) :: st) w := E_loadi (n := 2) rfl h
set_option maxRecDepth 30000 in
theorem e_85_120 {ls : ab_L} {st : List Value} {w : ab_W} : ab_Run ab_mt 85 120 ls st w = ab_Run ab_mt 85 121 ls (.int (nI 5) :: st) w := E_push (n := 1) rfl
set_option maxRecDepth 30000 in
theorem e_85_121 {ls : ab_L} {st : List Value} {w : ab_W} (h : ab_isR (ls 3) = true) : ab_Run ab_mt 85 121 ls st w = ab_Run ab_mt 85 122 ls (ab_gv (ls 3) :: st) w := E_loadr (n := 1) rfl h
set_option maxRecDepth 30000 in
theorem e_85_122 {ls : ab_L} {st : List Value} {w : ab_W} : ab_Run ab_mt 85 122 ls st w = ab_Run ab_mt 85 123 ls (.int (nI 0) :: st) w := E_push (n := 1) rfl
set_option maxRecDepth 30000 in
theorem e_85_123 {ls : ab_L} {st : List Value} {w : ab_W} {a : Nat} {i : Int32} (h : ab_inI i (w.2 a) = true) : ab_Run ab_mt 85 123 ls (.int i :: .ref a :: st) w = ab_Run ab_mt 85 124 ls (.int (ab_aI i.toNatClampNeg (w.2 a)) :: st) w := E_iald rfl h
set_option maxRecDepth 30000 in
theorem e_85_124 {ls : ab_L} {st : List Value} {w : ab_W} {x y : Int32} : ab_Run ab_mt 85 124 ls (.int y :: .int x :: st) w = ab_Run ab_mt 85 125 ls (.int (x * y) :: st) w := E_ib (f := fun x y => x * y) rfl
set_option maxRecDepth 30000 in
theorem e_85_125 {ls : ab_L} {st : List Value} {w : ab_W} {x y : Int32} : ab_Run ab_mt 85 125 ls (.int y :: .int x :: st) w = if y ≤ x then ab_Run ab_mt 85 146 ls st w else ab_Run ab_mt 85 128 ls st w := E_ic_ge rfl
set_option maxRecDepth 30000 in
theorem e_85_128 {ls : ab_L} {st : List Value} {w : ab_W} (h : ab_isR (ls 4) = true) : ab_Run ab_mt 85 128 ls st w = ab_Run ab_mt 85 130 ls (ab_gv (ls 4) :: st) w := E_loadr (n := 2) rfl h
set_option maxRecDepth 30000 in
theorem e_85_130 {ls : ab_L} {st : List Value} {w : ab_W} (h : ab_isI (ls 9) = true) : ab_Run ab_mt 85 130 ls st w = ab_Run ab_mt 85 132 ls (ab_gv (ls 9) :: st) w := E_loadi (n := 2) rfl h
set_option maxRecDepth 30000 in
theorem e_85_132 {ls : ab_L} {st : List Value} {w : ab_W} (h : ab_isR (ls 4) = true) : ab_Run ab_mt 85 132 ls st w = ab_Run ab_mt 85 134 ls (ab_gv (ls 4) :: st) w := E_loadr (n := 2) rfl h
set_option maxRecDepth 30000 in
theorem e_85_134 {ls : ab_L} {st : List Value} {w : ab_W} (h : ab_isI (ls 9) = true) : ab_Run ab_mt 85 134 ls st w = ab_Run ab_mt 85 136 ls (ab_gv (ls 9) :: st) w := E_loadi (n := 2) rfl h
set_option maxRecDepth 30000 in
theorem e_85_136 {ls : ab_L} {st : List Value} {w : ab_W} : ab_Run ab_mt 85 136 ls st w = ab_Run ab_mt 85 137 ls (.int (nI 5) :: st) w := E_push (n := 1) rfl
set_option maxRecDepth 30000 in
theorem e_85_137 {ls : ab_L} {st : List Value} {w : ab_W} {x y : Int32} : ab_Run ab_mt 85 137 ls (.int y :: .int x :: st) w = ab_Run ab_mt 85 138 ls (.int (x + y) :: st) w := E_ib (f := fun x y => x + y) rfl
set_option maxRecDepth 30000 in
theorem e_85_138 {ls : ab_L} {st : List Value} {w : ab_W} {a : Nat} {i : Int32} (h : ab_inI i (w.2 a) = true) : ab_Run ab_mt 85 138 ls (.int i :: .ref a :: st) w = ab_Run ab_mt 85 139 ls (.int (ab_aI i.toNatClampNeg (w.2 a)) :: st) w := E_iald rfl h
set_option maxRecDepth 30000 in
theorem e_85_139 {ls : ab_L} {st : List Value} {w : ab_W} {a : Nat} {i x : Int32} (h : ab_inW i (w.2 a) = true) : ab_Run ab_mt 85 139 ls (.int x :: .int i :: .ref a :: st) w = ab_Run ab_mt 85 140 ls st (w.1, ab_up w.2 a (ab_sI i.toNatClampNeg x (w.2 a))) := E_iast rfl h
set_option maxRecDepth 30000 in
theorem e_85_140 {ls : ab_L} {st : List Value} {w : ab_W} (h : ab_isI (ls 9) = true) : ab_Run ab_mt 85 140 ls st w = ab_Run ab_mt 85 143 (ab_l1 ls 9 (.int (ab_gi (ls 9) + (nI 1)))) st w := E_iinc rfl h
set_option maxRecDepth 30000 in
theorem e_85_143 {ls : ab_L} {st : List Value} {w : ab_W} : ab_Run ab_mt 85 143 ls st w = ab_Run ab_mt 85 118 ls st w := E_goto rfl
set_option maxRecDepth 30000 in
theorem e_85_146 {ls : ab_L} {st : List Value} {w : ab_W} (h : ab_isR (ls 3) = true) : ab_Run ab_mt 85 146 ls st w = ab_Run ab_mt 85 147 ls (ab_gv (ls 3) :: st) w := E_loadr (n := 1) rfl h
set_option maxRecDepth 30000 in
theorem e_85_147 {ls : ab_L} {st : List Value} {w : ab_W} (h : ab_isR (ls 4) = true) : ab_Run ab_mt 85 147 ls st w = ab_Run ab_mt 85 149 ls (ab_gv (ls 4) :: st) w := E_loadr (n := 2) rfl h
set_option maxRecDepth 30000 in
theorem e_85_149 {ls : ab_L} {st : List Value} {w : ab_W} (h : ab_isR (ls 6) = true) : ab_Run ab_mt 85 149 ls st w = ab_Run ab_mt 85 151 ls (ab_gv (ls 6) :: st) w := E_loadr (n := 2) rfl h
set_option maxRecDepth 30000 in
theorem e_85_151 {ls : ab_L} {st : List Value} {w : ab_W} {v0 v1 v2 : Value} (h1 : ab_recv ab_mt 75 [v0, v1, v2] w.2 = true) (h8 : ab_w8 st = true) : ab_Run ab_mt 85 151 ls (v2 :: v1 :: v0 :: st) w = ab_aft 75 85 151 ls st (ab_Cl 75 [v0, v1, v2] w) := E_call3 rfl h1 h8
set_option maxRecDepth 30000 in
theorem e_85_154 {ls : ab_L} {st : List Value} {w : ab_W} (h : ab_isR (ls 0) = true) : ab_Run ab_mt 85 154 ls st w = ab_Run ab_mt 85 155 ls (ab_gv (ls 0) :: st) w := E_loadr (n := 1) rfl h
set_option maxRecDepth 30000 in
theorem e_85_155 {ls : ab_L} {st : List Value} {w : ab_W} (h : ab_isI (ls 8) = true) : ab_Run ab_mt 85 155 ls st w = ab_Run ab_mt 85 157 ls (ab_gv (ls 8) :: st) w := E_loadi (n := 2) rfl h
set_option maxRecDepth 30000 in
theorem e_85_157 {ls : ab_L} {st : List Value} {w : ab_W} {v0 v1 : Value} (h1 : ab_recv ab_mt 3 [v0, v1] w.2 = true) (h8 : ab_w8 st = true) : ab_Run ab_mt 85 157 ls (v1 :: v0 :: st) w = ab_aft 3 85 157 ls st (ab_Cl 3 [v0, v1] w) := E_call2 rfl h1 h8
set_option maxRecDepth 30000 in
theorem e_85_160 {ls : ab_L} {st : List Value} {w : ab_W} (h : ab_isR (ls 3) = true) : ab_Run ab_mt 85 160 ls st w = ab_Run ab_mt 85 161 ls (ab_gv (ls 3) :: st) w := E_loadr (n := 1) rfl h
set_option maxRecDepth 30000 in
theorem e_85_161 {ls : ab_L} {st : List Value} {w : ab_W} : ab_Run ab_mt 85 161 ls st w = ab_Run ab_mt 85 162 ls (.int (nI 0) :: st) w := E_push (n := 1) rfl
set_option maxRecDepth 30000 in
theorem e_85_162 {ls : ab_L} {st : List Value} {w : ab_W} {a : Nat} {i : Int32} (h : ab_inI i (w.2 a) = true) : ab_Run ab_mt 85 162 ls (.int i :: .ref a :: st) w = ab_Run ab_mt 85 163 ls (.int (ab_aI i.toNatClampNeg (w.2 a)) :: st) w := E_iald rfl h
set_option maxRecDepth 30000 in
theorem e_85_163 {ls : ab_L} {st : List Value} {w : ab_W} {x y : Int32} : ab_Run ab_mt 85 163 ls (.int y :: .int x :: st) w = if x = y then ab_Run ab_mt 85 166 ls st w else ab_Run ab_mt 85 170 ls st w := E_ic_ne rfl
set_option maxRecDepth 30000 in
theorem e_85_166 {ls : ab_L} {st : List Value} {w : ab_W} : ab_Run ab_mt 85 166 ls st w = ab_Run ab_mt 85 167 ls (.int (nI 1) :: st) w := E_push (n := 1) rfl
set_option maxRecDepth 30000 in
theorem e_85_167 {ls : ab_L} {st : List Value} {w : ab_W} : ab_Run ab_mt 85 167 ls st w = ab_Run ab_mt 85 171 ls st w := E_goto rfl
set_option maxRecDepth 30000 in
theorem e_85_170 {ls : ab_L} {st : List Value} {w : ab_W} : ab_Run ab_mt 85 170 ls st w = ab_Run ab_mt 85 171 ls (.int (nI 0) :: st) w := E_push (n := 1) rfl
set_option maxRecDepth 30000 in
theorem e_85_171 {ls : ab_L} {w : ab_W} {x : Int32} (h : ab_fitr 2 (.int x) = true) : ab_Run ab_mt 85 171 ls [.int x] w = some (.inl (some (.int x)), w) := E_retz rfl h
set_option maxRecDepth 30000 in
theorem e_85_172 {ls : ab_L} {st : List Value} {w : ab_W} (h : ab_isR (ls 3) = true) : ab_Run ab_mt 85 172 ls st w = ab_Run ab_mt 85 173 ls (ab_gv (ls 3) :: st) w := E_loadr (n := 1) rfl h
set_option maxRecDepth 30000 in
theorem e_85_173 {ls : ab_L} {st : List Value} {w : ab_W} : ab_Run ab_mt 85 173 ls st w = ab_Run ab_mt 85 174 ls (.int (nI 1) :: st) w := E_push (n := 1) rfl
set_option maxRecDepth 30000 in
theorem e_85_174 {ls : ab_L} {st : List Value} {w : ab_W} {a : Nat} {i : Int32} (h : ab_inI i (w.2 a) = true) : ab_Run ab_mt 85 174 ls (.int i :: .ref a :: st) w = ab_Run ab_mt 85 175 ls (.int (ab_aI i.toNatClampNeg (w.2 a)) :: st) w := E_iald rfl h
set_option maxRecDepth 30000 in
theorem e_85_175 {ls : ab_L} {st : List Value} {w : ab_W} {x : Int32} : ab_Run ab_mt 85 175 ls (.int x :: st) w = if x ≤ 0 then ab_Run ab_mt 85 268 ls st w else ab_Run ab_mt 85 178 ls st w := E_if_le rfl
set_option maxRecDepth 30000 in
theorem e_85_178 {ls : ab_L} {st : List Value} {w : ab_W} (h : ab_isI (ls 1) = true) : ab_Run ab_mt 85 178 ls st w = ab_Run ab_mt 85 179 ls (ab_gv (ls 1) :: st) w := E_loadi (n := 1) rfl h
set_option maxRecDepth 30000 in
theorem e_85_179 {ls : ab_L} {st : List Value} {w : ab_W} : ab_Run ab_mt 85 179 ls st w = ab_Run ab_mt 85 180 ls (.int (nI 2) :: st) w := E_push (n := 1) rfl
set_option maxRecDepth 30000 in
theorem e_85_180 {ls : ab_L} {st : List Value} {w : ab_W} {v0 v1 : Value} (h1 : ab_recv ab_mt 64 [v0, v1] w.2 = true) (h8 : ab_w8 st = true) : ab_Run ab_mt 85 180 ls (v1 :: v0 :: st) w = ab_aft 64 85 180 ls st (ab_Cl 64 [v0, v1] w) := E_call2 rfl h1 h8
set_option maxRecDepth 30000 in
theorem e_85_183 {ls : ab_L} {st : List Value} {w : ab_W} {x : Int32} : ab_Run ab_mt 85 183 ls (.int x :: st) w = if x = 0 then ab_Run ab_mt 85 186 ls st w else ab_Run ab_mt 85 268 ls st w := E_if_ne rfl
set_option maxRecDepth 30000 in
theorem e_85_186 {ls : ab_L} {st : List Value} {w : ab_W} (h : ab_isI (ls 1) = true) : ab_Run ab_mt 85 186 ls st w = ab_Run ab_mt 85 187 ls (ab_gv (ls 1) :: st) w := E_loadi (n := 1) rfl h
set_option maxRecDepth 30000 in
theorem e_85_187 {ls : ab_L} {st : List Value} {w : ab_W} : ab_Run ab_mt 85 187 ls st w = ab_Run ab_mt 85 188 ls (.int (nI 3) :: st) w := E_push (n := 1) rfl
set_option maxRecDepth 30000 in
theorem e_85_188 {ls : ab_L} {st : List Value} {w : ab_W} {x y : Int32} : ab_Run ab_mt 85 188 ls (.int y :: .int x :: st) w = ab_Run ab_mt 85 189 ls (.int (x >>> (y &&& 31)) :: st) w := E_ib (f := fun x y => x >>> (y &&& 31)) rfl
set_option maxRecDepth 30000 in
theorem e_85_189 {ls : ab_L} {st : List Value} {w : ab_W} (h : ab_isR (ls 3) = true) : ab_Run ab_mt 85 189 ls st w = ab_Run ab_mt 85 190 ls (ab_gv (ls 3) :: st) w := E_loadr (n := 1) rfl h
set_option maxRecDepth 30000 in
theorem e_85_190 {ls : ab_L} {st : List Value} {w : ab_W} : ab_Run ab_mt 85 190 ls st w = ab_Run ab_mt 85 191 ls (.int (nI 1) :: st) w := E_push (n := 1) rfl
set_option maxRecDepth 30000 in
theorem e_85_191 {ls : ab_L} {st : List Value} {w : ab_W} {a : Nat} {i : Int32} (h : ab_inI i (w.2 a) = true) : ab_Run ab_mt 85 191 ls (.int i :: .ref a :: st) w = ab_Run ab_mt 85 192 ls (.int (ab_aI i.toNatClampNeg (w.2 a)) :: st) w := E_iald rfl h
set_option maxRecDepth 30000 in
theorem e_85_192 {ls : ab_L} {st : List Value} {w : ab_W} {v0 v1 : Value} (h1 : ab_recv ab_mt 64 [v0, v1] w.2 = true) (h8 : ab_w8 st = true) : ab_Run ab_mt 85 192 ls (v1 :: v0 :: st) w = ab_aft 64 85 192 ls st (ab_Cl 64 [v0, v1] w) := E_call2 rfl h1 h8
set_option maxRecDepth 30000 in
theorem e_85_195 {ls : ab_L} {st : List Value} {w : ab_W} {x : Int32} : ab_Run ab_mt 85 195 ls (.int x :: st) w = ab_Run ab_mt 85 197 (ab_l1 ls 8 (.int x)) st w := E_stori (n := 2) rfl
set_option maxRecDepth 30000 in
theorem e_85_197 {ls : ab_L} {st : List Value} {w : ab_W} (h : ab_isI (ls 8) = true) : ab_Run ab_mt 85 197 ls st w = ab_Run ab_mt 85 199 ls (ab_gv (ls 8) :: st) w := E_loadi (n := 2) rfl h
set_option maxRecDepth 30000 in
theorem e_85_199 {ls : ab_L} {st : List Value} {w : ab_W} (h : ab_isR (ls 3) = true) : ab_Run ab_mt 85 199 ls st w = ab_Run ab_mt 85 200 ls (ab_gv (ls 3) :: st) w := E_loadr (n := 1) rfl h
set_option maxRecDepth 30000 in
theorem e_85_200 {ls : ab_L} {st : List Value} {w : ab_W} (h : ab_isR (ls 5) = true) : ab_Run ab_mt 85 200 ls st w = ab_Run ab_mt 85 202 ls (ab_gv (ls 5) :: st) w := E_loadr (n := 2) rfl h
set_option maxRecDepth 30000 in
theorem e_85_202 {ls : ab_L} {st : List Value} {w : ab_W} {v0 v1 v2 : Value} (h1 : ab_recv ab_mt 77 [v0, v1, v2] w.2 = true) (h8 : ab_w8 st = true) : ab_Run ab_mt 85 202 ls (v2 :: v1 :: v0 :: st) w = ab_aft 77 85 202 ls st (ab_Cl 77 [v0, v1, v2] w) := E_call3 rfl h1 h8
set_option maxRecDepth 30000 in
theorem e_85_205 {ls : ab_L} {st : List Value} {w : ab_W} {x : Int32} : ab_Run ab_mt 85 205 ls (.int x :: st) w = ab_Run ab_mt 85 207 (ab_l1 ls 9 (.int x)) st w := E_stori (n := 2) rfl
set_option maxRecDepth 30000 in
theorem e_85_207 {ls : ab_L} {st : List Value} {w : ab_W} (h : ab_isR (ls 3) = true) : ab_Run ab_mt 85 207 ls st w = ab_Run ab_mt 85 208 ls (ab_gv (ls 3) :: st) w := E_loadr (n := 1) rfl h
set_option maxRecDepth 30000 in
theorem e_85_208 {ls : ab_L} {st : List Value} {w : ab_W} : ab_Run ab_mt 85 208 ls st w = ab_Run ab_mt 85 209 ls (.int (nI 1) :: st) w := E_push (n := 1) rfl
set_option maxRecDepth 30000 in
theorem e_85_209 {ls : ab_L} {st : List Value} {w : ab_W} {x : Nat} {y : Int32} : ab_Run ab_mt 85 209 ls (.int y :: .ref x :: st) w = ab_Run ab_mt 85 210 ls (.int y :: .ref x :: .int y :: .ref x :: st) w := E_dup2 rfl
set_option maxRecDepth 30000 in
theorem e_85_210 {ls : ab_L} {st : List Value} {w : ab_W} {a : Nat} {i : Int32} (h : ab_inI i (w.2 a) = true) : ab_Run ab_mt 85 210 ls (.int i :: .ref a :: st) w = ab_Run ab_mt 85 211 ls (.int (ab_aI i.toNatClampNeg (w.2 a)) :: st) w := E_iald rfl h
set_option maxRecDepth 30000 in
theorem e_85_211 {ls : ab_L} {st : List Value} {w : ab_W} : ab_Run ab_mt 85 211 ls st w = ab_Run ab_mt 85 212 ls (.int (nI 1) :: st) w := E_push (n := 1) rfl
set_option maxRecDepth 30000 in
theorem e_85_212 {ls : ab_L} {st : List Value} {w : ab_W} {x y : Int32} : ab_Run ab_mt 85 212 ls (.int y :: .int x :: st) w = ab_Run ab_mt 85 213 ls (.int (x - y) :: st) w := E_ib (f := fun x y => x - y) rfl
set_option maxRecDepth 30000 in
theorem e_85_213 {ls : ab_L} {st : List Value} {w : ab_W} {a : Nat} {i x : Int32} (h : ab_inW i (w.2 a) = true) : ab_Run ab_mt 85 213 ls (.int x :: .int i :: .ref a :: st) w = ab_Run ab_mt 85 214 ls st (w.1, ab_up w.2 a (ab_sI i.toNatClampNeg x (w.2 a))) := E_iast rfl h
set_option maxRecDepth 30000 in
theorem e_85_214 {ls : ab_L} {st : List Value} {w : ab_W} : ab_Run ab_mt 85 214 ls st w = ab_Run ab_mt 85 215 ls (.int (nI 0) :: st) w := E_push (n := 1) rfl
set_option maxRecDepth 30000 in
theorem e_85_215 {ls : ab_L} {st : List Value} {w : ab_W} {x : Int32} : ab_Run ab_mt 85 215 ls (.int x :: st) w = ab_Run ab_mt 85 217 (ab_l1 ls 10 (.int x)) st w := E_stori (n := 2) rfl
set_option maxRecDepth 30000 in
theorem e_85_217 {ls : ab_L} {st : List Value} {w : ab_W} (h : ab_isI (ls 10) = true) : ab_Run ab_mt 85 217 ls st w = ab_Run ab_mt 85 219 ls (ab_gv (ls 10) :: st) w := E_loadi (n := 2) rfl h
set_option maxRecDepth 30000 in
theorem e_85_219 {ls : ab_L} {st : List Value} {w : ab_W} : ab_Run ab_mt 85 219 ls st w = ab_Run ab_mt 85 220 ls (.int (nI 3) :: st) w := E_push (n := 1) rfl
set_option maxRecDepth 30000 in
theorem e_85_220 {ls : ab_L} {st : List Value} {w : ab_W} {x y : Int32} : ab_Run ab_mt 85 220 ls (.int y :: .int x :: st) w = if y ≤ x then ab_Run ab_mt 85 250 ls st w else ab_Run ab_mt 85 223 ls st w := E_ic_ge rfl
set_option maxRecDepth 30000 in
theorem e_85_223 {ls : ab_L} {st : List Value} {w : ab_W} (h : ab_isR (ls 5) = true) : ab_Run ab_mt 85 223 ls st w = ab_Run ab_mt 85 225 ls (ab_gv (ls 5) :: st) w := E_loadr (n := 2) rfl h
set_option maxRecDepth 30000 in
theorem e_85_225 {ls : ab_L} {st : List Value} {w : ab_W} : ab_Run ab_mt 85 225 ls st w = ab_Run ab_mt 85 226 ls (.int (nI 3) :: st) w := E_push (n := 1) rfl
set_option maxRecDepth 30000 in
theorem e_85_226 {ls : ab_L} {st : List Value} {w : ab_W} (h : ab_isI (ls 9) = true) : ab_Run ab_mt 85 226 ls st w = ab_Run ab_mt 85 228 ls (ab_gv (ls 9) :: st) w := E_loadi (n := 2) rfl h
set_option maxRecDepth 30000 in
theorem e_85_228 {ls : ab_L} {st : List Value} {w : ab_W} {x y : Int32} : ab_Run ab_mt 85 228 ls (.int y :: .int x :: st) w = ab_Run ab_mt 85 229 ls (.int (x * y) :: st) w := E_ib (f := fun x y => x * y) rfl
set_option maxRecDepth 30000 in
theorem e_85_229 {ls : ab_L} {st : List Value} {w : ab_W} (h : ab_isI (ls 10) = true) : ab_Run ab_mt 85 229 ls st w = ab_Run ab_mt 85 231 ls (ab_gv (ls 10) :: st) w := E_loadi (n := 2) rfl h
set_option maxRecDepth 30000 in
theorem e_85_231 {ls : ab_L} {st : List Value} {w : ab_W} {x y : Int32} : ab_Run ab_mt 85 231 ls (.int y :: .int x :: st) w = ab_Run ab_mt 85 232 ls (.int (x + y) :: st) w := E_ib (f := fun x y => x + y) rfl
set_option maxRecDepth 30000 in
theorem e_85_232 {ls : ab_L} {st : List Value} {w : ab_W} (h : ab_isR (ls 5) = true) : ab_Run ab_mt 85 232 ls st w = ab_Run ab_mt 85 234 ls (ab_gv (ls 5) :: st) w := E_loadr (n := 2) rfl h
set_option maxRecDepth 30000 in
theorem e_85_234 {ls : ab_L} {st : List Value} {w : ab_W} : ab_Run ab_mt 85 234 ls st w = ab_Run ab_mt 85 235 ls (.int (nI 3) :: st) w := E_push (n := 1) rfl
set_option maxRecDepth 30000 in
theorem e_85_235 {ls : ab_L} {st : List Value} {w : ab_W} (h : ab_isR (ls 3) = true) : ab_Run ab_mt 85 235 ls st w = ab_Run ab_mt 85 236 ls (ab_gv (ls 3) :: st) w := E_loadr (n := 1) rfl h
set_option maxRecDepth 30000 in
theorem e_85_236 {ls : ab_L} {st : List Value} {w : ab_W} : ab_Run ab_mt 85 236 ls st w = ab_Run ab_mt 85 237 ls (.int (nI 1) :: st) w := E_push (n := 1) rfl
set_option maxRecDepth 30000 in
theorem e_85_237 {ls : ab_L} {st : List Value} {w : ab_W} {a : Nat} {i : Int32} (h : ab_inI i (w.2 a) = true) : ab_Run ab_mt 85 237 ls (.int i :: .ref a :: st) w = ab_Run ab_mt 85 238 ls (.int (ab_aI i.toNatClampNeg (w.2 a)) :: st) w := E_iald rfl h
set_option maxRecDepth 30000 in
theorem e_85_238 {ls : ab_L} {st : List Value} {w : ab_W} {x y : Int32} : ab_Run ab_mt 85 238 ls (.int y :: .int x :: st) w = ab_Run ab_mt 85 239 ls (.int (x * y) :: st) w := E_ib (f := fun x y => x * y) rfl
set_option maxRecDepth 30000 in
theorem e_85_239 {ls : ab_L} {st : List Value} {w : ab_W} (h : ab_isI (ls 10) = true) : ab_Run ab_mt 85 239 ls st w = ab_Run ab_mt 85 241 ls (ab_gv (ls 10) :: st) w := E_loadi (n := 2) rfl h
set_option maxRecDepth 30000 in
theorem e_85_241 {ls : ab_L} {st : List Value} {w : ab_W} {x y : Int32} : ab_Run ab_mt 85 241 ls (.int y :: .int x :: st) w = ab_Run ab_mt 85 242 ls (.int (x + y) :: st) w := E_ib (f := fun x y => x + y) rfl
set_option maxRecDepth 30000 in
theorem e_85_242 {ls : ab_L} {st : List Value} {w : ab_W} {a : Nat} {i : Int32} (h : ab_inI i (w.2 a) = true) : ab_Run ab_mt 85 242 ls (.int i :: .ref a :: st) w = ab_Run ab_mt 85 243 ls (.int (ab_aI i.toNatClampNeg (w.2 a)) :: st) w := E_iald rfl h
set_option maxRecDepth 30000 in
theorem e_85_243 {ls : ab_L} {st : List Value} {w : ab_W} {a : Nat} {i x : Int32} (h : ab_inW i (w.2 a) = true) : ab_Run ab_mt 85 243 ls (.int x :: .int i :: .ref a :: st) w = ab_Run ab_mt 85 244 ls st (w.1, ab_up w.2 a (ab_sI i.toNatClampNeg x (w.2 a))) := E_iast rfl h
set_option maxRecDepth 30000 in
theorem e_85_244 {ls : ab_L} {st : List Value} {w : ab_W} (h : ab_isI (ls 10) = true) : ab_Run ab_mt 85 244 ls st w = ab_Run ab_mt 85 247 (ab_l1 ls 10 (.int (ab_gi (ls 10) + (nI 1)))) st w := E_iinc rfl h
set_option maxRecDepth 30000 in
theorem e_85_247 {ls : ab_L} {st : List Value} {w : ab_W} : ab_Run ab_mt 85 247 ls st w = ab_Run ab_mt 85 217 ls st w := E_goto rfl
set_option maxRecDepth 30000 in
theorem e_85_250 {ls : ab_L} {st : List Value} {w : ab_W} (h : ab_isR (ls 0) = true) : ab_Run ab_mt 85 250 ls st w = ab_Run ab_mt 85 251 ls (ab_gv (ls 0) :: st) w := E_loadr (n := 1) rfl h
set_option maxRecDepth 30000 in
theorem e_85_251 {ls : ab_L} {st : List Value} {w : ab_W} (h : ab_isI (ls 8) = true) : ab_Run ab_mt 85 251 ls st w = ab_Run ab_mt 85 253 ls (ab_gv (ls 8) :: st) w := E_loadi (n := 2) rfl h
set_option maxRecDepth 30000 in
theorem e_85_253 {ls : ab_L} {st : List Value} {w : ab_W} {v0 v1 : Value} (h1 : ab_recv ab_mt 5 [v0, v1] w.2 = true) (h8 : ab_w8 st = true) : ab_Run ab_mt 85 253 ls (v1 :: v0 :: st) w = ab_aft 5 85 253 ls st (ab_Cl 5 [v0, v1] w) := E_call2 rfl h1 h8
set_option maxRecDepth 30000 in
theorem e_85_256 {ls : ab_L} {st : List Value} {w : ab_W} (h : ab_isR (ls 3) = true) : ab_Run ab_mt 85 256 ls st w = ab_Run ab_mt 85 257 ls (ab_gv (ls 3) :: st) w := E_loadr (n := 1) rfl h
set_option maxRecDepth 30000 in
theorem e_85_257 {ls : ab_L} {st : List Value} {w : ab_W} : ab_Run ab_mt 85 257 ls st w = ab_Run ab_mt 85 258 ls (.int (nI 1) :: st) w := E_push (n := 1) rfl
set_option maxRecDepth 30000 in
theorem e_85_258 {ls : ab_L} {st : List Value} {w : ab_W} {a : Nat} {i : Int32} (h : ab_inI i (w.2 a) = true) : ab_Run ab_mt 85 258 ls (.int i :: .ref a :: st) w = ab_Run ab_mt 85 259 ls (.int (ab_aI i.toNatClampNeg (w.2 a)) :: st) w := E_iald rfl h
set_option maxRecDepth 30000 in
theorem e_85_259 {ls : ab_L} {st : List Value} {w : ab_W} {x y : Int32} : ab_Run ab_mt 85 259 ls (.int y :: .int x :: st) w = if x = y then ab_Run ab_mt 85 262 ls st w else ab_Run ab_mt 85 266 ls st w := E_ic_ne rfl
set_option maxRecDepth 30000 in
theorem e_85_262 {ls : ab_L} {st : List Value} {w : ab_W} : ab_Run ab_mt 85 262 ls st w = ab_Run ab_mt 85 263 ls (.int (nI 1) :: st) w := E_push (n := 1) rfl
set_option maxRecDepth 30000 in
theorem e_85_263 {ls : ab_L} {st : List Value} {w : ab_W} : ab_Run ab_mt 85 263 ls st w = ab_Run ab_mt 85 267 ls st w := E_goto rfl
set_option maxRecDepth 30000 in
theorem e_85_266 {ls : ab_L} {st : List Value} {w : ab_W} : ab_Run ab_mt 85 266 ls st w = ab_Run ab_mt 85 267 ls (.int (nI 0) :: st) w := E_push (n := 1) rfl
set_option maxRecDepth 30000 in
theorem e_85_267 {ls : ab_L} {w : ab_W} {x : Int32} (h : ab_fitr 2 (.int x) = true) : ab_Run ab_mt 85 267 ls [.int x] w = some (.inl (some (.int x)), w) := E_retz rfl h
set_option maxRecDepth 30000 in
theorem e_85_268 {ls : ab_L} {st : List Value} {w : ab_W} (h : ab_isR (ls 3) = true) : ab_Run ab_mt 85 268 ls st w = ab_Run ab_mt 85 269 ls (ab_gv (ls 3) :: st) w := E_loadr (n := 1) rfl h
set_option maxRecDepth 30000 in
theorem e_85_269 {ls : ab_L} {st : List Value} {w : ab_W} : ab_Run ab_mt 85 269 ls st w = ab_Run ab_mt 85 270 ls (.int (nI 2) :: st) w := E_push (n := 1) rfl
set_option maxRecDepth 30000 in
theorem e_85_270 {ls : ab_L} {st : List Value} {w : ab_W} {a : Nat} {i : Int32} (h : ab_inI i (w.2 a) = true) : ab_Run ab_mt 85 270 ls (.int i :: .ref a :: st) w = ab_Run ab_mt 85 271 ls (.int (ab_aI i.toNatClampNeg (w.2 a)) :: st) w := E_iald rfl h
set_option maxRecDepth 30000 in
theorem e_85_271 {ls : ab_L} {st : List Value} {w : ab_W} {x : Int32} : ab_Run ab_mt 85 271 ls (.int x :: st) w = if x = 0 then ab_Run ab_mt 85 274 ls st w else ab_Run ab_mt 85 276 ls st w := E_if_ne rfl
set_option maxRecDepth 30000 in
theorem e_85_274 {ls : ab_L} {st : List Value} {w : ab_W} : ab_Run ab_mt 85 274 ls st w = ab_Run ab_mt 85 275 ls (.int (nI 1) :: st) w := E_push (n := 1) rfl
set_option maxRecDepth 30000 in
theorem e_85_275 {ls : ab_L} {w : ab_W} {x : Int32} (h : ab_fitr 2 (.int x) = true) : ab_Run ab_mt 85 275 ls [.int x] w = some (.inl (some (.int x)), w) := E_retz rfl h
set_option maxRecDepth 30000 in
theorem e_85_276 {ls : ab_L} {st : List Value} {w : ab_W} (h : ab_isI (ls 1) = true) : ab_Run ab_mt 85 276 ls st w = ab_Run ab_mt 85 277 ls (ab_gv (ls 1) :: st) w := E_loadi (n := 1) rfl h
set_option maxRecDepth 30000 in
theorem e_85_277 {ls : ab_L} {st : List Value} {w : ab_W} : ab_Run ab_mt 85 277 ls st w = ab_Run ab_mt 85 278 ls (.int (nI 5) :: st) w := E_push (n := 1) rfl
set_option maxRecDepth 30000 in
theorem e_85_278 {ls : ab_L} {st : List Value} {w : ab_W} {x y : Int32} : ab_Run ab_mt 85 278 ls (.int y :: .int x :: st) w = ab_Run ab_mt 85 279 ls (.int (x >>> (y &&& 31)) :: st) w := E_ib (f := fun x y => x >>> (y &&& 31)) rfl
set_option maxRecDepth 30000 in
theorem e_85_279 {ls : ab_L} {st : List Value} {w : ab_W} (h : ab_isR (ls 3) = true) : ab_Run ab_mt 85 279 ls st w = ab_Run ab_mt 85 280 ls (ab_gv (ls 3) :: st) w := E_loadr (n := 1) rfl h
set_option maxRecDepth 30000 in
theorem e_85_280 {ls : ab_L} {st : List Value} {w : ab_W} : ab_Run ab_mt 85 280 ls st w = ab_Run ab_mt 85 281 ls (.int (nI 2) :: st) w := E_push (n := 1) rfl
set_option maxRecDepth 30000 in
theorem e_85_281 {ls : ab_L} {st : List Value} {w : ab_W} {a : Nat} {i : Int32} (h : ab_inI i (w.2 a) = true) : ab_Run ab_mt 85 281 ls (.int i :: .ref a :: st) w = ab_Run ab_mt 85 282 ls (.int (ab_aI i.toNatClampNeg (w.2 a)) :: st) w := E_iald rfl h
set_option maxRecDepth 30000 in
theorem e_85_282 {ls : ab_L} {st : List Value} {w : ab_W} {v0 v1 : Value} (h1 : ab_recv ab_mt 64 [v0, v1] w.2 = true) (h8 : ab_w8 st = true) : ab_Run ab_mt 85 282 ls (v1 :: v0 :: st) w = ab_aft 64 85 282 ls st (ab_Cl 64 [v0, v1] w) := E_call2 rfl h1 h8
set_option maxRecDepth 30000 in
theorem e_85_285 {ls : ab_L} {st : List Value} {w : ab_W} {x : Int32} : ab_Run ab_mt 85 285 ls (.int x :: st) w = ab_Run ab_mt 85 287 (ab_l1 ls 8 (.int x)) st w := E_stori (n := 2) rfl
set_option maxRecDepth 30000 in
theorem e_85_287 {ls : ab_L} {st : List Value} {w : ab_W} (h : ab_isR (ls 3) = true) : ab_Run ab_mt 85 287 ls st w = ab_Run ab_mt 85 288 ls (ab_gv (ls 3) :: st) w := E_loadr (n := 1) rfl h
set_option maxRecDepth 30000 in
theorem e_85_288 {ls : ab_L} {st : List Value} {w : ab_W} : ab_Run ab_mt 85 288 ls st w = ab_Run ab_mt 85 289 ls (.int (nI 2) :: st) w := E_push (n := 1) rfl
set_option maxRecDepth 30000 in
theorem e_85_289 {ls : ab_L} {st : List Value} {w : ab_W} {x : Nat} {y : Int32} : ab_Run ab_mt 85 289 ls (.int y :: .ref x :: st) w = ab_Run ab_mt 85 290 ls (.int y :: .ref x :: .int y :: .ref x :: st) w := E_dup2 rfl
set_option maxRecDepth 30000 in
theorem e_85_290 {ls : ab_L} {st : List Value} {w : ab_W} {a : Nat} {i : Int32} (h : ab_inI i (w.2 a) = true) : ab_Run ab_mt 85 290 ls (.int i :: .ref a :: st) w = ab_Run ab_mt 85 291 ls (.int (ab_aI i.toNatClampNeg (w.2 a)) :: st) w := E_iald rfl h
set_option maxRecDepth 30000 in
theorem e_85_291 {ls : ab_L} {st : List Value} {w : ab_W} : ab_Run ab_mt 85 291 ls st w = ab_Run ab_mt 85 292 ls (.int (nI 1) :: st) w := E_push (n := 1) rfl
set_option maxRecDepth 30000 in
theorem e_85_292 {ls : ab_L} {st : List Value} {w : ab_W} {x y : Int32} : ab_Run ab_mt 85 292 ls (.int y :: .int x :: st) w = ab_Run ab_mt 85 293 ls (.int (x - y) :: st) w := E_ib (f := fun x y => x - y) rfl
set_option maxRecDepth 30000 in
theorem e_85_293 {ls : ab_L} {st : List Value} {w : ab_W} {a : Nat} {i x : Int32} (h : ab_inW i (w.2 a) = true) : ab_Run ab_mt 85 293 ls (.int x :: .int i :: .ref a :: st) w = ab_Run ab_mt 85 294 ls st (w.1, ab_up w.2 a (ab_sI i.toNatClampNeg x (w.2 a))) := E_iast rfl h
set_option maxRecDepth 30000 in
theorem e_85_294 {ls : ab_L} {st : List Value} {w : ab_W} : ab_Run ab_mt 85 294 ls st w = ab_Run ab_mt 85 295 ls (.int (nI 3) :: st) w := E_push (n := 1) rfl
set_option maxRecDepth 30000 in
theorem e_85_295 {ls : ab_L} {st : List Value} {w : ab_W} (h : ab_isI (ls 8) = true) : ab_Run ab_mt 85 295 ls st w = ab_Run ab_mt 85 297 ls (ab_gv (ls 8) :: st) w := E_loadi (n := 2) rfl h
set_option maxRecDepth 30000 in
theorem e_85_297 {ls : ab_L} {st : List Value} {w : ab_W} {x y : Int32} : ab_Run ab_mt 85 297 ls (.int y :: .int x :: st) w = ab_Run ab_mt 85 298 ls (.int (x * y) :: st) w := E_ib (f := fun x y => x * y) rfl
set_option maxRecDepth 30000 in
theorem e_85_298 {ls : ab_L} {st : List Value} {w : ab_W} {x : Int32} : ab_Run ab_mt 85 298 ls (.int x :: st) w = ab_Run ab_mt 85 300 (ab_l1 ls 9 (.int x)) st w := E_stori (n := 2) rfl
set_option maxRecDepth 30000 in
theorem e_85_300 {ls : ab_L} {st : List Value} {w : ab_W} (h : ab_isI (ls 9) = true) : ab_Run ab_mt 85 300 ls st w = ab_Run ab_mt 85 302 ls (ab_gv (ls 9) :: st) w := E_loadi (n := 2) rfl h
set_option maxRecDepth 30000 in
theorem e_85_302 {ls : ab_L} {st : List Value} {w : ab_W} : ab_Run ab_mt 85 302 ls st w = ab_Run ab_mt 85 303 ls (.int (nI 3) :: st) w := E_push (n := 1) rfl
set_option maxRecDepth 30000 in
theorem e_85_303 {ls : ab_L} {st : List Value} {w : ab_W} (h : ab_isR (ls 3) = true) : ab_Run ab_mt 85 303 ls st w = ab_Run ab_mt 85 304 ls (ab_gv (ls 3) :: st) w := E_loadr (n := 1) rfl h
set_option maxRecDepth 30000 in
theorem e_85_304 {ls : ab_L} {st : List Value} {w : ab_W} : ab_Run ab_mt 85 304 ls st w = ab_Run ab_mt 85 305 ls (.int (nI 2) :: st) w := E_push (n := 1) rfl
set_option maxRecDepth 30000 in
theorem e_85_305 {ls : ab_L} {st : List Value} {w : ab_W} {a : Nat} {i : Int32} (h : ab_inI i (w.2 a) = true) : ab_Run ab_mt 85 305 ls (.int i :: .ref a :: st) w = ab_Run ab_mt 85 306 ls (.int (ab_aI i.toNatClampNeg (w.2 a)) :: st) w := E_iald rfl h
set_option maxRecDepth 30000 in
theorem e_85_306 {ls : ab_L} {st : List Value} {w : ab_W} {x y : Int32} : ab_Run ab_mt 85 306 ls (.int y :: .int x :: st) w = ab_Run ab_mt 85 307 ls (.int (x * y) :: st) w := E_ib (f := fun x y => x * y) rfl
set_option maxRecDepth 30000 in
theorem e_85_307 {ls : ab_L} {st : List Value} {w : ab_W} {x y : Int32} : ab_Run ab_mt 85 307 ls (.int y :: .int x :: st) w = if y ≤ x then ab_Run ab_mt 85 328 ls st w else ab_Run ab_mt 85 310 ls st w := E_ic_ge rfl
set_option maxRecDepth 30000 in
theorem e_85_310 {ls : ab_L} {st : List Value} {w : ab_W} (h : ab_isR (ls 6) = true) : ab_Run ab_mt 85 310 ls st w = ab_Run ab_mt 85 312 ls (ab_gv (ls 6) :: st) w := E_loadr (n := 2) rfl h
set_option maxRecDepth 30000 in
theorem e_85_312 {ls : ab_L} {st : List Value} {w : ab_W} (h : ab_isI (ls 9) = true) : ab_Run ab_mt 85 312 ls st w = ab_Run ab_mt 85 314 ls (ab_gv (ls 9) :: st) w := E_loadi (n := 2) rfl h
set_option maxRecDepth 30000 in
theorem e_85_314 {ls : ab_L} {st : List Value} {w : ab_W} (h : ab_isR (ls 6) = true) : ab_Run ab_mt 85 314 ls st w = ab_Run ab_mt 85 316 ls (ab_gv (ls 6) :: st) w := E_loadr (n := 2) rfl h
set_option maxRecDepth 30000 in
theorem e_85_316 {ls : ab_L} {st : List Value} {w : ab_W} (h : ab_isI (ls 9) = true) : ab_Run ab_mt 85 316 ls st w = ab_Run ab_mt 85 318 ls (ab_gv (ls 9) :: st) w := E_loadi (n := 2) rfl h
set_option maxRecDepth 30000 in
theorem e_85_318 {ls : ab_L} {st : List Value} {w : ab_W} : ab_Run ab_mt 85 318 ls st w = ab_Run ab_mt 85 319 ls (.int (nI 3) :: st) w := E_push (n := 1) rfl
set_option maxRecDepth 30000 in
theorem e_85_319 {ls : ab_L} {st : List Value} {w : ab_W} {x y : Int32} : ab_Run ab_mt 85 319 ls (.int y :: .int x :: st) w = ab_Run ab_mt 85 320 ls (.int (x + y) :: st) w := E_ib (f := fun x y => x + y) rfl
set_option maxRecDepth 30000 in
theorem e_85_320 {ls : ab_L} {st : List Value} {w : ab_W} {a : Nat} {i : Int32} (h : ab_inI i (w.2 a) = true) : ab_Run ab_mt 85 320 ls (.int i :: .ref a :: st) w = ab_Run ab_mt 85 321 ls (.int (ab_aI i.toNatClampNeg (w.2 a)) :: st) w := E_iald rfl h
set_option maxRecDepth 30000 in
theorem e_85_321 {ls : ab_L} {st : List Value} {w : ab_W} {a : Nat} {i x : Int32} (h : ab_inW i (w.2 a) = true) : ab_Run ab_mt 85 321 ls (.int x :: .int i :: .ref a :: st) w = ab_Run ab_mt 85 322 ls st (w.1, ab_up w.2 a (ab_sI i.toNatClampNeg x (w.2 a))) := E_iast rfl h
set_option maxRecDepth 30000 in
theorem e_85_322 {ls : ab_L} {st : List Value} {w : ab_W} (h : ab_isI (ls 9) = true) : ab_Run ab_mt 85 322 ls st w = ab_Run ab_mt 85 325 (ab_l1 ls 9 (.int (ab_gi (ls 9) + (nI 1)))) st w := E_iinc rfl h
set_option maxRecDepth 30000 in
theorem e_85_325 {ls : ab_L} {st : List Value} {w : ab_W} : ab_Run ab_mt 85 325 ls st w = ab_Run ab_mt 85 300 ls st w := E_goto rfl
set_option maxRecDepth 30000 in
theorem e_85_328 {ls : ab_L} {st : List Value} {w : ab_W} (h : ab_isR (ls 0) = true) : ab_Run ab_mt 85 328 ls st w = ab_Run ab_mt 85 329 ls (ab_gv (ls 0) :: st) w := E_loadr (n := 1) rfl h
set_option maxRecDepth 30000 in
theorem e_85_329 {ls : ab_L} {st : List Value} {w : ab_W} (h : ab_isI (ls 8) = true) : ab_Run ab_mt 85 329 ls st w = ab_Run ab_mt 85 331 ls (ab_gv (ls 8) :: st) w := E_loadi (n := 2) rfl h
set_option maxRecDepth 30000 in
theorem e_85_331 {ls : ab_L} {st : List Value} {w : ab_W} {v0 v1 : Value} (h1 : ab_recv ab_mt 7 [v0, v1] w.2 = true) (h8 : ab_w8 st = true) : ab_Run ab_mt 85 331 ls (v1 :: v0 :: st) w = ab_aft 7 85 331 ls st (ab_Cl 7 [v0, v1] w) := E_call2 rfl h1 h8
set_option maxRecDepth 30000 in
theorem e_85_334 {ls : ab_L} {st : List Value} {w : ab_W} (h : ab_isR (ls 3) = true) : ab_Run ab_mt 85 334 ls st w = ab_Run ab_mt 85 335 ls (ab_gv (ls 3) :: st) w := E_loadr (n := 1) rfl h
set_option maxRecDepth 30000 in
theorem e_85_335 {ls : ab_L} {st : List Value} {w : ab_W} : ab_Run ab_mt 85 335 ls st w = ab_Run ab_mt 85 336 ls (.int (nI 2) :: st) w := E_push (n := 1) rfl
set_option maxRecDepth 30000 in
theorem e_85_336 {ls : ab_L} {st : List Value} {w : ab_W} {a : Nat} {i : Int32} (h : ab_inI i (w.2 a) = true) : ab_Run ab_mt 85 336 ls (.int i :: .ref a :: st) w = ab_Run ab_mt 85 337 ls (.int (ab_aI i.toNatClampNeg (w.2 a)) :: st) w := E_iald rfl h
set_option maxRecDepth 30000 in
theorem e_85_337 {ls : ab_L} {st : List Value} {w : ab_W} {x y : Int32} : ab_Run ab_mt 85 337 ls (.int y :: .int x :: st) w = if x = y then ab_Run ab_mt 85 340 ls st w else ab_Run ab_mt 85 344 ls st w := E_ic_ne rfl
set_option maxRecDepth 30000 in
theorem e_85_340 {ls : ab_L} {st : List Value} {w : ab_W} : ab_Run ab_mt 85 340 ls st w = ab_Run ab_mt 85 341 ls (.int (nI 1) :: st) w := E_push (n := 1) rfl
set_option maxRecDepth 30000 in
theorem e_85_341 {ls : ab_L} {st : List Value} {w : ab_W} : ab_Run ab_mt 85 341 ls st w = ab_Run ab_mt 85 345 ls st w := E_goto rfl
set_option maxRecDepth 30000 in
theorem e_85_344 {ls : ab_L} {st : List Value} {w : ab_W} : ab_Run ab_mt 85 344 ls st w = ab_Run ab_mt 85 345 ls (.int (nI 0) :: st) w := E_push (n := 1) rfl
set_option maxRecDepth 30000 in
theorem e_85_345 {ls : ab_L} {w : ab_W} {x : Int32} (h : ab_fitr 2 (.int x) = true) : ab_Run ab_mt 85 345 ls [.int x] w = some (.inl (some (.int x)), w) := E_retz rfl h
theorem rv_85 {σ : ab_S} {x0 : Nat} {x1 : Int32} {x2 : Int32} {x3 : Nat} {x4 : Nat} {x5 : Nat} {x6 : Nat} : ab_recv ab_mt 85 [.ref x0, .int x1, .int x2, .ref x3, .ref x4, .ref x5, .ref x6] σ = true := rfl
theorem x_85_29 {ls : ab_L} {rest : List Value} {E : Nat} {w : ab_W} : ab_aft 78 85 29 ls rest (some (.inr E, w)) = some (.inr E, w) := ab_aft_x rfl rfl (by unfold ab_hand; rfl)
theorem x_85_47 {ls : ab_L} {rest : List Value} {E : Nat} {w : ab_W} : ab_aft 81 85 47 ls rest (some (.inr E, w)) = some (.inr E, w) := ab_aft_x rfl rfl (by unfold ab_hand; rfl)
theorem x_85_66 {ls : ab_L} {rest : List Value} {E : Nat} {w : ab_W} : ab_aft 79 85 66 ls rest (some (.inr E, w)) = some (.inr E, w) := ab_aft_x rfl rfl (by unfold ab_hand; rfl)
theorem x_85_85 {ls : ab_L} {rest : List Value} {E : Nat} {w : ab_W} : ab_aft 80 85 85 ls rest (some (.inr E, w)) = some (.inr E, w) := ab_aft_x rfl rfl (by unfold ab_hand; rfl)
theorem x_85_157 {ls : ab_L} {rest : List Value} {E : Nat} {w : ab_W} : ab_aft 3 85 157 ls rest (some (.inr E, w)) = some (.inr E, w) := ab_aft_x rfl rfl (by unfold ab_hand; rfl)
theorem x_85_253 {ls : ab_L} {rest : List Value} {E : Nat} {w : ab_W} : ab_aft 5 85 253 ls rest (some (.inr E, w)) = some (.inr E, w) := ab_aft_x rfl rfl (by unfold ab_hand; rfl)
theorem x_85_331 {ls : ab_L} {rest : List Value} {E : Nat} {w : ab_W} : ab_aft 7 85 331 ls rest (some (.inr E, w)) = some (.inr E, w) := ab_aft_x rfl rfl (by unfold ab_hand; rfl)
theorem e_86_0 {ls : ab_L} {st : List Value} {w : ab_W} (h : w.1.1 = true) : ab_Run ab_mt 86 0 ls st w = ab_Run ab_mt 86 3 ls (.ref w.1.2.1 :: st) (ab_mk w.1 w.2 (ab_ob 0 [.null, .null, .null, .null, .null, .int 0, .null, .int 0, .null, .null]) 10) := E_new (n := 3) (x := ab_ob 0 [.null, .null, .null, .null, .null, .int 0, .null, .int 0, .null, .null]) (sz := 10) (rest := st) rfl rfl h
theorem e_86_3 {ls : ab_L} {st : List Value} {w : ab_W} {x : Nat} : ab_Run ab_mt 86 3 ls (.ref x :: st) w = ab_Run ab_mt 86 4 ls (.ref x :: .ref x :: st) w := E_dup_r rfl
theorem e_86_4 {ls : ab_L} {st : List Value} {w : ab_W} {v0 : Value} (h1 : ab_recv ab_mt 0 [v0] w.2 = true) (h8 : ab_w8 st = true) : ab_Run ab_mt 86 4 ls (v0 :: st) w = ab_aft 0 86 4 ls st (ab_Cl 0 [v0] w) := E_call1 rfl h1 h8
theorem e_86_7 {ls : ab_L} {st : List Value} {w : ab_W} {x : Nat} : ab_Run ab_mt 86 7 ls (.ref x :: st) w = ab_Run ab_mt 86 8 (ab_l1 ls 1 (.ref x)) st w := E_storr (n := 1) rfl
theorem e_86_8 {ls : ab_L} {st : List Value} {w : ab_W} : ab_Run ab_mt 86 8 ls st w = ab_Run ab_mt 86 9 ls (.int (nI 3) :: st) w := E_push (n := 1) rfl
theorem e_86_9 {ls : ab_L} {st : List Value} {w : ab_W} {n : Int32} (h : w.1.1 = true) (hn : ¬ (n < 0 ∨ 60000 < n.toNatClampNeg)) : ab_Run ab_mt 86 9 ls (.int n :: st) w = ab_Run ab_mt 86 11 ls (.ref w.1.2.1 :: st) (ab_mk w.1 w.2 (ab_ia n.toNatClampNeg (fun _ => 0)) n.toNatClampNeg) := E_new (n := 2) (x := ab_ia n.toNatClampNeg (fun _ => 0)) (sz := n.toNatClampNeg) (rest := st) rfl (if_neg hn) h
theorem e_86_11 {ls : ab_L} {st : List Value} {w : ab_W} {x : Nat} : ab_Run ab_mt 86 11 ls (.ref x :: st) w = ab_Run ab_mt 86 12 (ab_l1 ls 2 (.ref x)) st w := E_storr (n := 1) rfl
theorem e_86_12 {ls : ab_L} {st : List Value} {w : ab_W} : ab_Run ab_mt 86 12 ls st w = ab_Run ab_mt 86 14 ls (.int (nI 40) :: st) w := E_push (n := 2) rfl
theorem e_86_14 {ls : ab_L} {st : List Value} {w : ab_W} {n : Int32} (h : w.1.1 = true) (hn : ¬ (n < 0 ∨ 60000 < n.toNatClampNeg)) : ab_Run ab_mt 86 14 ls (.int n :: st) w = ab_Run ab_mt 86 16 ls (.ref w.1.2.1 :: st) (ab_mk w.1 w.2 (ab_ia n.toNatClampNeg (fun _ => 0)) n.toNatClampNeg) := E_new (n := 2) (x := ab_ia n.toNatClampNeg (fun _ => 0)) (sz := n.toNatClampNeg) (rest := st) rfl (if_neg hn) h
theorem e_86_16 {ls : ab_L} {st : List Value} {w : ab_W} {x : Nat} : ab_Run ab_mt 86 16 ls (.ref x :: st) w = ab_Run ab_mt 86 17 (ab_l1 ls 3 (.ref x)) st w := E_storr (n := 1) rfl
theorem e_86_17 {ls : ab_L} {st : List Value} {w : ab_W} : ab_Run ab_mt 86 17 ls st w = ab_Run ab_mt 86 19 ls (.int (nI 18) :: st) w := E_push (n := 2) rfl
theorem e_86_19 {ls : ab_L} {st : List Value} {w : ab_W} {n : Int32} (h : w.1.1 = true) (hn : ¬ (n < 0 ∨ 60000 < n.toNatClampNeg)) : ab_Run ab_mt 86 19 ls (.int n :: st) w = ab_Run ab_mt 86 21 ls (.ref w.1.2.1 :: st) (ab_mk w.1 w.2 (ab_ia n.toNatClampNeg (fun _ => 0)) n.toNatClampNeg) := E_new (n := 2) (x := ab_ia n.toNatClampNeg (fun _ => 0)) (sz := n.toNatClampNeg) (rest := st) rfl (if_neg hn) h
theorem e_86_21 {ls : ab_L} {st : List Value} {w : ab_W} {x : Nat} : ab_Run ab_mt 86 21 ls (.ref x :: st) w = ab_Run ab_mt 86 23 (ab_l1 ls 4 (.ref x)) st w := E_storr (n := 2) rfl
theorem e_86_23 {ls : ab_L} {st : List Value} {w : ab_W} : ab_Run ab_mt 86 23 ls st w = ab_Run ab_mt 86 25 ls (.int (nI 15) :: st) w := E_push (n := 2) rfl
theorem e_86_25 {ls : ab_L} {st : List Value} {w : ab_W} {n : Int32} (h : w.1.1 = true) (hn : ¬ (n < 0 ∨ 60000 < n.toNatClampNeg)) : ab_Run ab_mt 86 25 ls (.int n :: st) w = ab_Run ab_mt 86 27 ls (.ref w.1.2.1 :: st) (ab_mk w.1 w.2 (ab_ia n.toNatClampNeg (fun _ => 0)) n.toNatClampNeg) := E_new (n := 2) (x := ab_ia n.toNatClampNeg (fun _ => 0)) (sz := n.toNatClampNeg) (rest := st) rfl (if_neg hn) h
theorem e_86_27 {ls : ab_L} {st : List Value} {w : ab_W} {x : Nat} : ab_Run ab_mt 86 27 ls (.ref x :: st) w = ab_Run ab_mt 86 29 (ab_l1 ls 5 (.ref x)) st w := E_storr (n := 2) rfl
theorem e_86_29 {ls : ab_L} {st : List Value} {w : ab_W} (h : ab_isR (ls 1) = true) : ab_Run ab_mt 86 29 ls st w = ab_Run ab_mt 86 30 ls (ab_gv (ls 1) :: st) w := E_loadr (n := 1) rfl h
theorem e_86_30 {ls : ab_L} {st : List Value} {w : ab_W} : ab_Run ab_mt 86 30 ls st w = ab_Run ab_mt 86 31 ls (.int (nI 0) :: st) w := E_push (n := 1) rfl
theorem e_86_31 {ls : ab_L} {st : List Value} {w : ab_W} (h : ab_isR (ls 2) = true) : ab_Run ab_mt 86 31 ls st w = ab_Run ab_mt 86 32 ls (ab_gv (ls 2) :: st) w := E_loadr (n := 1) rfl h
theorem e_86_32 {ls : ab_L} {st : List Value} {w : ab_W} (h : ab_isR (ls 3) = true) : ab_Run ab_mt 86 32 ls st w = ab_Run ab_mt 86 33 ls (ab_gv (ls 3) :: st) w := E_loadr (n := 1) rfl h
theorem e_86_33 {ls : ab_L} {st : List Value} {w : ab_W} (h : ab_isR (ls 4) = true) : ab_Run ab_mt 86 33 ls st w = ab_Run ab_mt 86 35 ls (ab_gv (ls 4) :: st) w := E_loadr (n := 2) rfl h
theorem e_86_35 {ls : ab_L} {st : List Value} {w : ab_W} {v0 v1 v2 v3 v4 : Value} (h1 : ab_recv ab_mt 82 [v0, v1, v2, v3, v4] w.2 = true) (h8 : ab_w8 st = true) : ab_Run ab_mt 86 35 ls (v4 :: v3 :: v2 :: v1 :: v0 :: st) w = ab_aft 82 86 35 ls st (ab_Cl 82 [v0, v1, v2, v3, v4] w) := E_call5 rfl h1 h8
theorem e_86_38 {ls : ab_L} {st : List Value} {w : ab_W} {x : Int32} : ab_Run ab_mt 86 38 ls (.int x :: st) w = if x = 0 then ab_Run ab_mt 86 51 ls st w else ab_Run ab_mt 86 41 ls st w := E_if_eq rfl
theorem e_86_41 {ls : ab_L} {st : List Value} {w : ab_W} (h : ab_isR (ls 1) = true) : ab_Run ab_mt 86 41 ls st w = ab_Run ab_mt 86 42 ls (ab_gv (ls 1) :: st) w := E_loadr (n := 1) rfl h
theorem e_86_42 {ls : ab_L} {st : List Value} {w : ab_W} : ab_Run ab_mt 86 42 ls st w = ab_Run ab_mt 86 43 ls (.long (lN 0) :: st) w := E_push (n := 1) rfl
theorem e_86_43 {ls : ab_L} {st : List Value} {w : ab_W} : ab_Run ab_mt 86 43 ls st w = ab_Run ab_mt 86 44 ls (.int (nI 0) :: st) w := E_push (n := 1) rfl
theorem e_86_44 {ls : ab_L} {st : List Value} {w : ab_W} {v0 v1 v2 : Value} (h1 : ab_recv ab_mt 13 [v0, v1, v2] w.2 = true) (h8 : ab_w8 st = true) : ab_Run ab_mt 86 44 ls (v2 :: v1 :: v0 :: st) w = ab_aft 13 86 44 ls st (ab_Cl 13 [v0, v1, v2] w) := E_call3 rfl h1 h8
theorem e_86_47 {ls : ab_L} {st : List Value} {w : ab_W} : ab_Run ab_mt 86 47 ls st w = ab_Run ab_mt 86 48 ls (.int (-1) :: st) w := E_push (n := 1) rfl
theorem e_86_48 {ls : ab_L} {st : List Value} {w : ab_W} {x y : Int32} : ab_Run ab_mt 86 48 ls (.int y :: .int x :: st) w = if x = y then ab_Run ab_mt 86 53 ls st w else ab_Run ab_mt 86 51 ls st w := E_ic_eq rfl
theorem e_86_51 {ls : ab_L} {st : List Value} {w : ab_W} : ab_Run ab_mt 86 51 ls st w = ab_Run ab_mt 86 52 ls (.int (nI 0) :: st) w := E_push (n := 1) rfl
theorem e_86_52 {ls : ab_L} {w : ab_W} {x : Int32} (h : ab_fitr 2 (.int x) = true) : ab_Run ab_mt 86 52 ls [.int x] w = some (.inl (some (.int x)), w) := E_retz rfl h
theorem e_86_53 {ls : ab_L} {st : List Value} {w : ab_W} : ab_Run ab_mt 86 53 ls st w = ab_Run ab_mt 86 54 ls (.int (nI 0) :: st) w := E_push (n := 1) rfl
theorem e_86_54 {ls : ab_L} {st : List Value} {w : ab_W} {x : Int32} : ab_Run ab_mt 86 54 ls (.int x :: st) w = ab_Run ab_mt 86 56 (ab_l1 ls 6 (.int x)) st w := E_stori (n := 2) rfl
theorem e_86_56 {ls : ab_L} {st : List Value} {w : ab_W} (h : ab_isI (ls 6) = true) : ab_Run ab_mt 86 56 ls st w = ab_Run ab_mt 86 58 ls (ab_gv (ls 6) :: st) w := E_loadi (n := 2) rfl h
theorem e_86_58 {ls : ab_L} {st : List Value} {w : ab_W} : ab_Run ab_mt 86 58 ls st w = ab_Run ab_mt 86 60 ls (.int (nI 24) :: st) w := E_push (n := 2) rfl
theorem e_86_60 {ls : ab_L} {st : List Value} {w : ab_W} {x y : Int32} : ab_Run ab_mt 86 60 ls (.int y :: .int x :: st) w = if y ≤ x then ab_Run ab_mt 86 160 ls st w else ab_Run ab_mt 86 63 ls st w := E_ic_ge rfl
theorem e_86_63 {ls : ab_L} {st : List Value} {w : ab_W} (h : ab_isR (ls 0) = true) : ab_Run ab_mt 86 63 ls st w = ab_Run ab_mt 86 64 ls (ab_gv (ls 0) :: st) w := E_loadr (n := 1) rfl h
theorem e_86_64 {ls : ab_L} {st : List Value} {w : ab_W} : ab_Run ab_mt 86 64 ls st w = ab_Run ab_mt 86 65 ls (.int (nI 2) :: st) w := E_push (n := 1) rfl
theorem e_86_65 {ls : ab_L} {st : List Value} {w : ab_W} (h : ab_isI (ls 6) = true) : ab_Run ab_mt 86 65 ls st w = ab_Run ab_mt 86 67 ls (ab_gv (ls 6) :: st) w := E_loadi (n := 2) rfl h
theorem e_86_67 {ls : ab_L} {st : List Value} {w : ab_W} {x y : Int32} : ab_Run ab_mt 86 67 ls (.int y :: .int x :: st) w = ab_Run ab_mt 86 68 ls (.int (x * y) :: st) w := E_ib (f := fun x y => x * y) rfl
theorem e_86_68 {ls : ab_L} {st : List Value} {w : ab_W} {v0 v1 : Value} (h1 : ab_recv ab_mt 63 [v0, v1] w.2 = true) (h8 : ab_w8 st = true) : ab_Run ab_mt 86 68 ls (v1 :: v0 :: st) w = ab_aft 63 86 68 ls st (ab_Cl 63 [v0, v1] w) := E_call2 rfl h1 h8
theorem e_86_71 {ls : ab_L} {st : List Value} {w : ab_W} {x : Int32} : ab_Run ab_mt 86 71 ls (.int x :: st) w = ab_Run ab_mt 86 73 (ab_l1 ls 7 (.int x)) st w := E_stori (n := 2) rfl
theorem e_86_73 {ls : ab_L} {st : List Value} {w : ab_W} (h : ab_isI (ls 6) = true) : ab_Run ab_mt 86 73 ls st w = ab_Run ab_mt 86 75 ls (ab_gv (ls 6) :: st) w := E_loadi (n := 2) rfl h
theorem e_86_75 {ls : ab_L} {st : List Value} {w : ab_W} : ab_Run ab_mt 86 75 ls st w = ab_Run ab_mt 86 76 ls (.int (nI 2) :: st) w := E_push (n := 1) rfl
theorem e_86_76 {ls : ab_L} {st : List Value} {w : ab_W} {x y : Int32} : ab_Run ab_mt 86 76 ls (.int y :: .int x :: st) w = if y ≤ x then ab_Run ab_mt 86 86 ls st w else ab_Run ab_mt 86 79 ls st w := E_ic_ge rfl
theorem e_86_79 {ls : ab_L} {st : List Value} {w : ab_W} (h : ab_isI (ls 7) = true) : ab_Run ab_mt 86 79 ls st w = ab_Run ab_mt 86 81 ls (ab_gv (ls 7) :: st) w := E_loadi (n := 2) rfl h
theorem e_86_81 {ls : ab_L} {st : List Value} {w : ab_W} : ab_Run ab_mt 86 81 ls st w = ab_Run ab_mt 86 83 ls (.int (nI 16777215) :: st) w := E_push (n := 2) rfl
theorem e_86_83 {ls : ab_L} {st : List Value} {w : ab_W} {x y : Int32} : ab_Run ab_mt 86 83 ls (.int y :: .int x :: st) w = ab_Run ab_mt 86 84 ls (.int (x &&& y) :: st) w := E_ib (f := fun x y => x &&& y) rfl
theorem e_86_84 {ls : ab_L} {st : List Value} {w : ab_W} {x : Int32} : ab_Run ab_mt 86 84 ls (.int x :: st) w = ab_Run ab_mt 86 86 (ab_l1 ls 7 (.int x)) st w := E_stori (n := 2) rfl
theorem e_86_86 {ls : ab_L} {st : List Value} {w : ab_W} (h : ab_isR (ls 1) = true) : ab_Run ab_mt 86 86 ls st w = ab_Run ab_mt 86 87 ls (ab_gv (ls 1) :: st) w := E_loadr (n := 1) rfl h
theorem e_86_87 {ls : ab_L} {st : List Value} {w : ab_W} (h : ab_isI (ls 7) = true) : ab_Run ab_mt 86 87 ls st w = ab_Run ab_mt 86 89 ls (ab_gv (ls 7) :: st) w := E_loadi (n := 2) rfl h
theorem e_86_89 {ls : ab_L} {st : List Value} {w : ab_W} (h : ab_isR (ls 0) = true) : ab_Run ab_mt 86 89 ls st w = ab_Run ab_mt 86 90 ls (ab_gv (ls 0) :: st) w := E_loadr (n := 1) rfl h
theorem e_86_90 {ls : ab_L} {st : List Value} {w : ab_W} : ab_Run ab_mt 86 90 ls st w = ab_Run ab_mt 86 91 ls (.int (nI 2) :: st) w := E_push (n := 1) rfl
theorem e_86_91 {ls : ab_L} {st : List Value} {w : ab_W} (h : ab_isI (ls 6) = true) : ab_Run ab_mt 86 91 ls st w = ab_Run ab_mt 86 93 ls (ab_gv (ls 6) :: st) w := E_loadi (n := 2) rfl h
theorem e_86_93 {ls : ab_L} {st : List Value} {w : ab_W} {x y : Int32} : ab_Run ab_mt 86 93 ls (.int y :: .int x :: st) w = ab_Run ab_mt 86 94 ls (.int (x * y) :: st) w := E_ib (f := fun x y => x * y) rfl
theorem e_86_94 {ls : ab_L} {st : List Value} {w : ab_W} : ab_Run ab_mt 86 94 ls st w = ab_Run ab_mt 86 95 ls (.int (nI 1) :: st) w := E_push (n := 1) rfl
theorem e_86_95 {ls : ab_L} {st : List Value} {w : ab_W} {x y : Int32} : ab_Run ab_mt 86 95 ls (.int y :: .int x :: st) w = ab_Run ab_mt 86 96 ls (.int (x + y) :: st) w := E_ib (f := fun x y => x + y) rfl
theorem e_86_96 {ls : ab_L} {st : List Value} {w : ab_W} {v0 v1 : Value} (h1 : ab_recv ab_mt 63 [v0, v1] w.2 = true) (h8 : ab_w8 st = true) : ab_Run ab_mt 86 96 ls (v1 :: v0 :: st) w = ab_aft 63 86 96 ls st (ab_Cl 63 [v0, v1] w) := E_call2 rfl h1 h8
theorem e_86_99 {ls : ab_L} {st : List Value} {w : ab_W} (h : ab_isR (ls 2) = true) : ab_Run ab_mt 86 99 ls st w = ab_Run ab_mt 86 100 ls (ab_gv (ls 2) :: st) w := E_loadr (n := 1) rfl h
theorem e_86_100 {ls : ab_L} {st : List Value} {w : ab_W} (h : ab_isR (ls 3) = true) : ab_Run ab_mt 86 100 ls st w = ab_Run ab_mt 86 101 ls (ab_gv (ls 3) :: st) w := E_loadr (n := 1) rfl h
theorem e_86_101 {ls : ab_L} {st : List Value} {w : ab_W} (h : ab_isR (ls 4) = true) : ab_Run ab_mt 86 101 ls st w = ab_Run ab_mt 86 103 ls (ab_gv (ls 4) :: st) w := E_loadr (n := 2) rfl h
theorem e_86_103 {ls : ab_L} {st : List Value} {w : ab_W} (h : ab_isR (ls 5) = true) : ab_Run ab_mt 86 103 ls st w = ab_Run ab_mt 86 105 ls (ab_gv (ls 5) :: st) w := E_loadr (n := 2) rfl h
theorem e_86_105 {ls : ab_L} {st : List Value} {w : ab_W} {v0 v1 v2 v3 v4 v5 v6 : Value} (h1 : ab_recv ab_mt 85 [v0, v1, v2, v3, v4, v5, v6] w.2 = true) (h8 : ab_w8 st = true) : ab_Run ab_mt 86 105 ls (v6 :: v5 :: v4 :: v3 :: v2 :: v1 :: v0 :: st) w = ab_aft 85 86 105 ls st (ab_Cl 85 [v0, v1, v2, v3, v4, v5, v6] w) := E_call7 rfl h1 h8
theorem e_86_108 {ls : ab_L} {st : List Value} {w : ab_W} {x : Int32} : ab_Run ab_mt 86 108 ls (.int x :: st) w = if x = 0 then ab_Run ab_mt 86 111 ls st w else ab_Run ab_mt 86 113 ls st w := E_if_ne rfl
theorem e_86_111 {ls : ab_L} {st : List Value} {w : ab_W} : ab_Run ab_mt 86 111 ls st w = ab_Run ab_mt 86 112 ls (.int (nI 0) :: st) w := E_push (n := 1) rfl
theorem e_86_112 {ls : ab_L} {w : ab_W} {x : Int32} (h : ab_fitr 2 (.int x) = true) : ab_Run ab_mt 86 112 ls [.int x] w = some (.inl (some (.int x)), w) := E_retz rfl h
theorem e_86_113 {ls : ab_L} {st : List Value} {w : ab_W} (h : ab_isR (ls 1) = true) : ab_Run ab_mt 86 113 ls st w = ab_Run ab_mt 86 114 ls (ab_gv (ls 1) :: st) w := E_loadr (n := 1) rfl h
theorem e_86_114 {ls : ab_L} {st : List Value} {w : ab_W} (h : ab_isI (ls 7) = true) : ab_Run ab_mt 86 114 ls st w = ab_Run ab_mt 86 116 ls (ab_gv (ls 7) :: st) w := E_loadi (n := 2) rfl h
theorem e_86_116 {ls : ab_L} {st : List Value} {w : ab_W} (h : ab_isR (ls 2) = true) : ab_Run ab_mt 86 116 ls st w = ab_Run ab_mt 86 117 ls (ab_gv (ls 2) :: st) w := E_loadr (n := 1) rfl h
theorem e_86_117 {ls : ab_L} {st : List Value} {w : ab_W} (h : ab_isR (ls 3) = true) : ab_Run ab_mt 86 117 ls st w = ab_Run ab_mt 86 118 ls (ab_gv (ls 3) :: st) w := E_loadr (n := 1) rfl h
theorem e_86_118 {ls : ab_L} {st : List Value} {w : ab_W} (h : ab_isR (ls 4) = true) : ab_Run ab_mt 86 118 ls st w = ab_Run ab_mt 86 120 ls (ab_gv (ls 4) :: st) w := E_loadr (n := 2) rfl h
theorem e_86_120 {ls : ab_L} {st : List Value} {w : ab_W} {v0 v1 v2 v3 v4 : Value} (h1 : ab_recv ab_mt 82 [v0, v1, v2, v3, v4] w.2 = true) (h8 : ab_w8 st = true) : ab_Run ab_mt 86 120 ls (v4 :: v3 :: v2 :: v1 :: v0 :: st) w = ab_aft 82 86 120 ls st (ab_Cl 82 [v0, v1, v2, v3, v4] w) := E_call5 rfl h1 h8
theorem e_86_123 {ls : ab_L} {st : List Value} {w : ab_W} {x : Int32} : ab_Run ab_mt 86 123 ls (.int x :: st) w = if x = 0 then ab_Run ab_mt 86 152 ls st w else ab_Run ab_mt 86 126 ls st w := E_if_eq rfl
theorem e_86_126 {ls : ab_L} {st : List Value} {w : ab_W} (h : ab_isR (ls 1) = true) : ab_Run ab_mt 86 126 ls st w = ab_Run ab_mt 86 127 ls (ab_gv (ls 1) :: st) w := E_loadr (n := 1) rfl h
theorem e_86_127 {ls : ab_L} {st : List Value} {w : ab_W} (h : ab_isR (ls 2) = true) : ab_Run ab_mt 86 127 ls st w = ab_Run ab_mt 86 128 ls (ab_gv (ls 2) :: st) w := E_loadr (n := 1) rfl h
theorem e_86_128 {ls : ab_L} {st : List Value} {w : ab_W} (h : ab_isR (ls 3) = true) : ab_Run ab_mt 86 128 ls st w = ab_Run ab_mt 86 129 ls (ab_gv (ls 3) :: st) w := E_loadr (n := 1) rfl h
theorem e_86_129 {ls : ab_L} {st : List Value} {w : ab_W} (h : ab_isR (ls 4) = true) : ab_Run ab_mt 86 129 ls st w = ab_Run ab_mt 86 131 ls (ab_gv (ls 4) :: st) w := E_loadr (n := 2) rfl h
theorem e_86_131 {ls : ab_L} {st : List Value} {w : ab_W} (h : ab_isR (ls 5) = true) : ab_Run ab_mt 86 131 ls st w = ab_Run ab_mt 86 133 ls (ab_gv (ls 5) :: st) w := E_loadr (n := 2) rfl h
theorem e_86_133 {ls : ab_L} {st : List Value} {w : ab_W} {v0 v1 v2 v3 v4 : Value} (h1 : ab_recv ab_mt 83 [v0, v1, v2, v3, v4] w.2 = true) (h8 : ab_w8 st = true) : ab_Run ab_mt 86 133 ls (v4 :: v3 :: v2 :: v1 :: v0 :: st) w = ab_aft 83 86 133 ls st (ab_Cl 83 [v0, v1, v2, v3, v4] w) := E_call5 rfl h1 h8
theorem e_86_136 {ls : ab_L} {st : List Value} {w : ab_W} {x : Int32} : ab_Run ab_mt 86 136 ls (.int x :: st) w = if x = 0 then ab_Run ab_mt 86 152 ls st w else ab_Run ab_mt 86 139 ls st w := E_if_eq rfl
theorem e_86_139 {ls : ab_L} {st : List Value} {w : ab_W} (h : ab_isR (ls 1) = true) : ab_Run ab_mt 86 139 ls st w = ab_Run ab_mt 86 140 ls (ab_gv (ls 1) :: st) w := E_loadr (n := 1) rfl h
theorem e_86_140 {ls : ab_L} {st : List Value} {w : ab_W} (h : ab_isI (ls 7) = true) : ab_Run ab_mt 86 140 ls st w = ab_Run ab_mt 86 142 ls (ab_gv (ls 7) :: st) w := E_loadi (n := 2) rfl h
theorem e_86_142 {ls : ab_L} {st : List Value} {w : ab_W} (h : ab_isR (ls 2) = true) : ab_Run ab_mt 86 142 ls st w = ab_Run ab_mt 86 143 ls (ab_gv (ls 2) :: st) w := E_loadr (n := 1) rfl h
theorem e_86_143 {ls : ab_L} {st : List Value} {w : ab_W} (h : ab_isR (ls 3) = true) : ab_Run ab_mt 86 143 ls st w = ab_Run ab_mt 86 144 ls (ab_gv (ls 3) :: st) w := E_loadr (n := 1) rfl h
theorem e_86_144 {ls : ab_L} {st : List Value} {w : ab_W} (h : ab_isR (ls 4) = true) : ab_Run ab_mt 86 144 ls st w = ab_Run ab_mt 86 146 ls (ab_gv (ls 4) :: st) w := E_loadr (n := 2) rfl h
theorem e_86_146 {ls : ab_L} {st : List Value} {w : ab_W} {v0 v1 v2 v3 v4 : Value} (h1 : ab_recv ab_mt 84 [v0, v1, v2, v3, v4] w.2 = true) (h8 : ab_w8 st = true) : ab_Run ab_mt 86 146 ls (v4 :: v3 :: v2 :: v1 :: v0 :: st) w = ab_aft 84 86 146 ls st (ab_Cl 84 [v0, v1, v2, v3, v4] w) := E_call5 rfl h1 h8
theorem e_86_149 {ls : ab_L} {st : List Value} {w : ab_W} {x : Int32} : ab_Run ab_mt 86 149 ls (.int x :: st) w = if x = 0 then ab_Run ab_mt 86 152 ls st w else ab_Run ab_mt 86 154 ls st w := E_if_ne rfl
theorem e_86_152 {ls : ab_L} {st : List Value} {w : ab_W} : ab_Run ab_mt 86 152 ls st w = ab_Run ab_mt 86 153 ls (.int (nI 0) :: st) w := E_push (n := 1) rfl
theorem e_86_153 {ls : ab_L} {w : ab_W} {x : Int32} (h : ab_fitr 2 (.int x) = true) : ab_Run ab_mt 86 153 ls [.int x] w = some (.inl (some (.int x)), w) := E_retz rfl h
theorem e_86_154 {ls : ab_L} {st : List Value} {w : ab_W} (h : ab_isI (ls 6) = true) : ab_Run ab_mt 86 154 ls st w = ab_Run ab_mt 86 157 (ab_l1 ls 6 (.int (ab_gi (ls 6) + (nI 1)))) st w := E_iinc rfl h
theorem e_86_157 {ls : ab_L} {st : List Value} {w : ab_W} : ab_Run ab_mt 86 157 ls st w = ab_Run ab_mt 86 56 ls st w := E_goto rfl
theorem e_86_160 {ls : ab_L} {st : List Value} {w : ab_W} : ab_Run ab_mt 86 160 ls st w = ab_Run ab_mt 86 161 ls (.int (nI 1) :: st) w := E_push (n := 1) rfl
theorem e_86_161 {ls : ab_L} {w : ab_W} {x : Int32} (h : ab_fitr 2 (.int x) = true) : ab_Run ab_mt 86 161 ls [.int x] w = some (.inl (some (.int x)), w) := E_retz rfl h
theorem x_86_35 {ls : ab_L} {rest : List Value} {E : Nat} {w : ab_W} : ab_aft 82 86 35 ls rest (some (.inr E, w)) = some (.inr E, w) := ab_aft_x rfl rfl (by unfold ab_hand; rfl)
theorem x_86_44 {ls : ab_L} {rest : List Value} {E : Nat} {w : ab_W} : ab_aft 13 86 44 ls rest (some (.inr E, w)) = some (.inr E, w) := ab_aft_x rfl rfl (by unfold ab_hand; rfl)
theorem x_86_105 {ls : ab_L} {rest : List Value} {E : Nat} {w : ab_W} : ab_aft 85 86 105 ls rest (some (.inr E, w)) = some (.inr E, w) := ab_aft_x rfl rfl (by unfold ab_hand; rfl)
theorem x_86_120 {ls : ab_L} {rest : List Value} {E : Nat} {w : ab_W} : ab_aft 82 86 120 ls rest (some (.inr E, w)) = some (.inr E, w) := ab_aft_x rfl rfl (by unfold ab_hand; rfl)
theorem x_86_133 {ls : ab_L} {rest : List Value} {E : Nat} {w : ab_W} : ab_aft 83 86 133 ls rest (some (.inr E, w)) = some (.inr E, w) := ab_aft_x rfl rfl (by unfold ab_hand; rfl)
theorem x_86_146 {ls : ab_L} {rest : List Value} {E : Nat} {w : ab_W} : ab_aft 84 86 146 ls rest (some (.inr E, w)) = some (.inr E, w) := ab_aft_x rfl rfl (by unfold ab_hand; rfl)
