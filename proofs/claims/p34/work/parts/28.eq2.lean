/-! the equations of runs, an instruction each: printed by wip/p34/gen_step.py -/
theorem e_63_0 {ls : ab_L} {st : List Value} {w : ab_W} (h : ab_isI (ls 1) = true) : ab_Run ab_mt 63 0 ls st w = ab_Run ab_mt 63 1 ls (ab_gv (ls 1) :: st) w := E_loadi (n := 1) rfl h
theorem e_63_1 {ls : ab_L} {st : List Value} {w : ab_W} (h : ab_isR (ls 0) = true) : ab_Run ab_mt 63 1 ls st w = ab_Run ab_mt 63 2 ls (ab_gv (ls 0) :: st) w := E_loadr (n := 1) rfl h
theorem e_63_2 {ls : ab_L} {st : List Value} {w : ab_W} {a : Nat} (h : ab_isA (w.2 a) = true) : ab_Run ab_mt 63 2 ls (.ref a :: st) w = ab_Run ab_mt 63 3 ls (.int (nI (ab_ln (w.2 a))) :: st) w := E_alen rfl h
theorem e_63_3 {ls : ab_L} {st : List Value} {w : ab_W} {x y : Int32} : ab_Run ab_mt 63 3 ls (.int y :: .int x :: st) w = if y ≤ x then ab_Run ab_mt 63 12 ls st w else ab_Run ab_mt 63 6 ls st w := E_ic_ge rfl
theorem e_63_6 {ls : ab_L} {st : List Value} {w : ab_W} (h : ab_isR (ls 0) = true) : ab_Run ab_mt 63 6 ls st w = ab_Run ab_mt 63 7 ls (ab_gv (ls 0) :: st) w := E_loadr (n := 1) rfl h
theorem e_63_7 {ls : ab_L} {st : List Value} {w : ab_W} (h : ab_isI (ls 1) = true) : ab_Run ab_mt 63 7 ls st w = ab_Run ab_mt 63 8 ls (ab_gv (ls 1) :: st) w := E_loadi (n := 1) rfl h
theorem e_63_8 {ls : ab_L} {st : List Value} {w : ab_W} {a : Nat} {i : Int32} (h : ab_inI i (w.2 a) = true) : ab_Run ab_mt 63 8 ls (.int i :: .ref a :: st) w = ab_Run ab_mt 63 9 ls (.int (ab_aI i.toNatClampNeg (w.2 a)) :: st) w := E_iald rfl h
theorem e_63_9 {ls : ab_L} {st : List Value} {w : ab_W} : ab_Run ab_mt 63 9 ls st w = ab_Run ab_mt 63 19 ls st w := E_goto rfl
theorem e_63_12 {ls : ab_L} {st : List Value} {w : ab_W} : ab_Run ab_mt 63 12 ls st w = ab_Run ab_mt 63 14 ls (.int (nI 528734635) :: st) w := E_push (n := 2) rfl
theorem e_63_14 {ls : ab_L} {st : List Value} {w : ab_W} (h : ab_isI (ls 1) = true) : ab_Run ab_mt 63 14 ls st w = ab_Run ab_mt 63 15 ls (ab_gv (ls 1) :: st) w := E_loadi (n := 1) rfl h
theorem e_63_15 {ls : ab_L} {st : List Value} {w : ab_W} : ab_Run ab_mt 63 15 ls st w = ab_Run ab_mt 63 17 ls (.int (nI 89) :: st) w := E_push (n := 2) rfl
theorem e_63_17 {ls : ab_L} {st : List Value} {w : ab_W} {x y : Int32} : ab_Run ab_mt 63 17 ls (.int y :: .int x :: st) w = ab_Run ab_mt 63 18 ls (.int (x + y) :: st) w := E_ib (f := fun x y => x + y) rfl
theorem e_63_18 {ls : ab_L} {st : List Value} {w : ab_W} {x y : Int32} : ab_Run ab_mt 63 18 ls (.int y :: .int x :: st) w = ab_Run ab_mt 63 19 ls (.int (x * y) :: st) w := E_ib (f := fun x y => x * y) rfl
theorem e_63_19 {ls : ab_L} {w : ab_W} {x : Int32} : ab_Run ab_mt 63 19 ls [.int x] w = some (.inl (some (.int x)), w) := E_reti rfl
theorem rv_63 {σ : ab_S} {x0 : Nat} {x1 : Int32} : ab_recv ab_mt 63 [.ref x0, .int x1] σ = true := rfl
theorem e_64_0 {ls : ab_L} {st : List Value} {w : ab_W} (h : ab_isI (ls 0) = true) : ab_Run ab_mt 64 0 ls st w = ab_Run ab_mt 64 1 ls (ab_gv (ls 0) :: st) w := E_loadi (n := 1) rfl h
theorem e_64_1 {ls : ab_L} {st : List Value} {w : ab_W} : ab_Run ab_mt 64 1 ls st w = ab_Run ab_mt 64 2 ls (.int (nI 1) :: st) w := E_push (n := 1) rfl
theorem e_64_2 {ls : ab_L} {st : List Value} {w : ab_W} {x y : Int32} : ab_Run ab_mt 64 2 ls (.int y :: .int x :: st) w = ab_Run ab_mt 64 3 ls (.int ((x.toUInt32 >>> (y.toUInt32 &&& Int32.toUInt32 31)).toInt32) :: st) w := E_ib (f := fun x y => (x.toUInt32 >>> (y.toUInt32 &&& Int32.toUInt32 31)).toInt32) rfl
theorem e_64_3 {ls : ab_L} {st : List Value} {w : ab_W} (h : ab_isI (ls 1) = true) : ab_Run ab_mt 64 3 ls st w = ab_Run ab_mt 64 4 ls (ab_gv (ls 1) :: st) w := E_loadi (n := 1) rfl h
theorem e_64_4 {ls : ab_L} {st : List Value} {w : ab_W} {x y : Int32} (h : ¬ y = 0) : ab_Run ab_mt 64 4 ls (.int y :: .int x :: st) w = ab_Run ab_mt 64 5 ls (.int (x - x / y * y) :: st) w := E_idv (f := fun x y => x - x / y * y) rfl h
theorem e_64_5 {ls : ab_L} {w : ab_W} {x : Int32} : ab_Run ab_mt 64 5 ls [.int x] w = some (.inl (some (.int x)), w) := E_reti rfl
theorem rv_64 {σ : ab_S} {x0 : Int32} {x1 : Int32} : ab_recv ab_mt 64 [.int x0, .int x1] σ = true := rfl
theorem e_65_0 {ls : ab_L} {st : List Value} {w : ab_W} : ab_Run ab_mt 65 0 ls st w = ab_Run ab_mt 65 1 ls (.int (nI 0) :: st) w := E_push (n := 1) rfl
theorem e_65_1 {ls : ab_L} {st : List Value} {w : ab_W} {x : Int32} : ab_Run ab_mt 65 1 ls (.int x :: st) w = ab_Run ab_mt 65 2 (ab_l1 ls 2 (.int x)) st w := E_stori (n := 1) rfl
theorem e_65_2 {ls : ab_L} {st : List Value} {w : ab_W} : ab_Run ab_mt 65 2 ls st w = ab_Run ab_mt 65 3 ls (.int (nI 0) :: st) w := E_push (n := 1) rfl
theorem e_65_3 {ls : ab_L} {st : List Value} {w : ab_W} {x : Int32} : ab_Run ab_mt 65 3 ls (.int x :: st) w = ab_Run ab_mt 65 4 (ab_l1 ls 3 (.int x)) st w := E_stori (n := 1) rfl
theorem e_65_4 {ls : ab_L} {st : List Value} {w : ab_W} (h : ab_isI (ls 3) = true) : ab_Run ab_mt 65 4 ls st w = ab_Run ab_mt 65 5 ls (ab_gv (ls 3) :: st) w := E_loadi (n := 1) rfl h
theorem e_65_5 {ls : ab_L} {st : List Value} {w : ab_W} (h : ab_isI (ls 0) = true) : ab_Run ab_mt 65 5 ls st w = ab_Run ab_mt 65 6 ls (ab_gv (ls 0) :: st) w := E_loadi (n := 1) rfl h
theorem e_65_6 {ls : ab_L} {st : List Value} {w : ab_W} {x y : Int32} : ab_Run ab_mt 65 6 ls (.int y :: .int x :: st) w = if y ≤ x then ab_Run ab_mt 65 23 ls st w else ab_Run ab_mt 65 9 ls st w := E_ic_ge rfl
theorem e_65_9 {ls : ab_L} {st : List Value} {w : ab_W} (h : ab_isI (ls 2) = true) : ab_Run ab_mt 65 9 ls st w = ab_Run ab_mt 65 10 ls (ab_gv (ls 2) :: st) w := E_loadi (n := 1) rfl h
theorem e_65_10 {ls : ab_L} {st : List Value} {w : ab_W} (h : ab_isR (ls 1) = true) : ab_Run ab_mt 65 10 ls st w = ab_Run ab_mt 65 11 ls (ab_gv (ls 1) :: st) w := E_loadr (n := 1) rfl h
theorem e_65_11 {ls : ab_L} {st : List Value} {w : ab_W} : ab_Run ab_mt 65 11 ls st w = ab_Run ab_mt 65 12 ls (.int (nI 5) :: st) w := E_push (n := 1) rfl
theorem e_65_12 {ls : ab_L} {st : List Value} {w : ab_W} (h : ab_isI (ls 3) = true) : ab_Run ab_mt 65 12 ls st w = ab_Run ab_mt 65 13 ls (ab_gv (ls 3) :: st) w := E_loadi (n := 1) rfl h
theorem e_65_13 {ls : ab_L} {st : List Value} {w : ab_W} {x y : Int32} : ab_Run ab_mt 65 13 ls (.int y :: .int x :: st) w = ab_Run ab_mt 65 14 ls (.int (x * y) :: st) w := E_ib (f := fun x y => x * y) rfl
theorem e_65_14 {ls : ab_L} {st : List Value} {w : ab_W} {a : Nat} {i : Int32} (h : ab_inI i (w.2 a) = true) : ab_Run ab_mt 65 14 ls (.int i :: .ref a :: st) w = ab_Run ab_mt 65 15 ls (.int (ab_aI i.toNatClampNeg (w.2 a)) :: st) w := E_iald rfl h
theorem e_65_15 {ls : ab_L} {st : List Value} {w : ab_W} {x y : Int32} : ab_Run ab_mt 65 15 ls (.int y :: .int x :: st) w = ab_Run ab_mt 65 16 ls (.int (x + y) :: st) w := E_ib (f := fun x y => x + y) rfl
theorem e_65_16 {ls : ab_L} {st : List Value} {w : ab_W} {x : Int32} : ab_Run ab_mt 65 16 ls (.int x :: st) w = ab_Run ab_mt 65 17 (ab_l1 ls 2 (.int x)) st w := E_stori (n := 1) rfl
theorem e_65_17 {ls : ab_L} {st : List Value} {w : ab_W} (h : ab_isI (ls 3) = true) : ab_Run ab_mt 65 17 ls st w = ab_Run ab_mt 65 20 (ab_l1 ls 3 (.int (ab_gi (ls 3) + (nI 1)))) st w := E_iinc rfl h
theorem e_65_20 {ls : ab_L} {st : List Value} {w : ab_W} : ab_Run ab_mt 65 20 ls st w = ab_Run ab_mt 65 4 ls st w := E_goto rfl
theorem e_65_23 {ls : ab_L} {st : List Value} {w : ab_W} (h : ab_isI (ls 2) = true) : ab_Run ab_mt 65 23 ls st w = ab_Run ab_mt 65 24 ls (ab_gv (ls 2) :: st) w := E_loadi (n := 1) rfl h
theorem e_65_24 {ls : ab_L} {w : ab_W} {x : Int32} : ab_Run ab_mt 65 24 ls [.int x] w = some (.inl (some (.int x)), w) := E_reti rfl
theorem rv_65 {σ : ab_S} {x0 : Int32} {x1 : Nat} : ab_recv ab_mt 65 [.int x0, .ref x1] σ = true := rfl
theorem e_66_0 {ls : ab_L} {st : List Value} {w : ab_W} : ab_Run ab_mt 66 0 ls st w = ab_Run ab_mt 66 1 ls (.int (nI 0) :: st) w := E_push (n := 1) rfl
theorem e_66_1 {ls : ab_L} {st : List Value} {w : ab_W} {x : Int32} : ab_Run ab_mt 66 1 ls (.int x :: st) w = ab_Run ab_mt 66 2 (ab_l1 ls 2 (.int x)) st w := E_stori (n := 1) rfl
theorem e_66_2 {ls : ab_L} {st : List Value} {w : ab_W} (h : ab_isI (ls 0) = true) : ab_Run ab_mt 66 2 ls st w = ab_Run ab_mt 66 3 ls (ab_gv (ls 0) :: st) w := E_loadi (n := 1) rfl h
theorem e_66_3 {ls : ab_L} {st : List Value} {w : ab_W} {x : Int32} : ab_Run ab_mt 66 3 ls (.int x :: st) w = ab_Run ab_mt 66 4 (ab_l1 ls 3 (.int x)) st w := E_stori (n := 1) rfl
theorem e_66_4 {ls : ab_L} {st : List Value} {w : ab_W} (h : ab_isI (ls 3) = true) : ab_Run ab_mt 66 4 ls st w = ab_Run ab_mt 66 5 ls (ab_gv (ls 3) :: st) w := E_loadi (n := 1) rfl h
theorem e_66_5 {ls : ab_L} {st : List Value} {w : ab_W} (h : ab_isR (ls 1) = true) : ab_Run ab_mt 66 5 ls st w = ab_Run ab_mt 66 6 ls (ab_gv (ls 1) :: st) w := E_loadr (n := 1) rfl h
theorem e_66_6 {ls : ab_L} {st : List Value} {w : ab_W} : ab_Run ab_mt 66 6 ls st w = ab_Run ab_mt 66 7 ls (.int (nI 5) :: st) w := E_push (n := 1) rfl
theorem e_66_7 {ls : ab_L} {st : List Value} {w : ab_W} (h : ab_isI (ls 2) = true) : ab_Run ab_mt 66 7 ls st w = ab_Run ab_mt 66 8 ls (ab_gv (ls 2) :: st) w := E_loadi (n := 1) rfl h
theorem e_66_8 {ls : ab_L} {st : List Value} {w : ab_W} {x y : Int32} : ab_Run ab_mt 66 8 ls (.int y :: .int x :: st) w = ab_Run ab_mt 66 9 ls (.int (x * y) :: st) w := E_ib (f := fun x y => x * y) rfl
theorem e_66_9 {ls : ab_L} {st : List Value} {w : ab_W} {a : Nat} {i : Int32} (h : ab_inI i (w.2 a) = true) : ab_Run ab_mt 66 9 ls (.int i :: .ref a :: st) w = ab_Run ab_mt 66 10 ls (.int (ab_aI i.toNatClampNeg (w.2 a)) :: st) w := E_iald rfl h
theorem e_66_10 {ls : ab_L} {st : List Value} {w : ab_W} {x y : Int32} : ab_Run ab_mt 66 10 ls (.int y :: .int x :: st) w = if x < y then ab_Run ab_mt 66 27 ls st w else ab_Run ab_mt 66 13 ls st w := E_ic_lt rfl
theorem e_66_13 {ls : ab_L} {st : List Value} {w : ab_W} (h : ab_isI (ls 3) = true) : ab_Run ab_mt 66 13 ls st w = ab_Run ab_mt 66 14 ls (ab_gv (ls 3) :: st) w := E_loadi (n := 1) rfl h
theorem e_66_14 {ls : ab_L} {st : List Value} {w : ab_W} (h : ab_isR (ls 1) = true) : ab_Run ab_mt 66 14 ls st w = ab_Run ab_mt 66 15 ls (ab_gv (ls 1) :: st) w := E_loadr (n := 1) rfl h
theorem e_66_15 {ls : ab_L} {st : List Value} {w : ab_W} : ab_Run ab_mt 66 15 ls st w = ab_Run ab_mt 66 16 ls (.int (nI 5) :: st) w := E_push (n := 1) rfl
theorem e_66_16 {ls : ab_L} {st : List Value} {w : ab_W} (h : ab_isI (ls 2) = true) : ab_Run ab_mt 66 16 ls st w = ab_Run ab_mt 66 17 ls (ab_gv (ls 2) :: st) w := E_loadi (n := 1) rfl h
theorem e_66_17 {ls : ab_L} {st : List Value} {w : ab_W} (h : ab_isI (ls 2) = true) : ab_Run ab_mt 66 17 ls st w = ab_Run ab_mt 66 20 (ab_l1 ls 2 (.int (ab_gi (ls 2) + (nI 1)))) st w := E_iinc rfl h
theorem e_66_20 {ls : ab_L} {st : List Value} {w : ab_W} {x y : Int32} : ab_Run ab_mt 66 20 ls (.int y :: .int x :: st) w = ab_Run ab_mt 66 21 ls (.int (x * y) :: st) w := E_ib (f := fun x y => x * y) rfl
theorem e_66_21 {ls : ab_L} {st : List Value} {w : ab_W} {a : Nat} {i : Int32} (h : ab_inI i (w.2 a) = true) : ab_Run ab_mt 66 21 ls (.int i :: .ref a :: st) w = ab_Run ab_mt 66 22 ls (.int (ab_aI i.toNatClampNeg (w.2 a)) :: st) w := E_iald rfl h
theorem e_66_22 {ls : ab_L} {st : List Value} {w : ab_W} {x y : Int32} : ab_Run ab_mt 66 22 ls (.int y :: .int x :: st) w = ab_Run ab_mt 66 23 ls (.int (x - y) :: st) w := E_ib (f := fun x y => x - y) rfl
theorem e_66_23 {ls : ab_L} {st : List Value} {w : ab_W} {x : Int32} : ab_Run ab_mt 66 23 ls (.int x :: st) w = ab_Run ab_mt 66 24 (ab_l1 ls 3 (.int x)) st w := E_stori (n := 1) rfl
theorem e_66_24 {ls : ab_L} {st : List Value} {w : ab_W} : ab_Run ab_mt 66 24 ls st w = ab_Run ab_mt 66 4 ls st w := E_goto rfl
theorem e_66_27 {ls : ab_L} {st : List Value} {w : ab_W} (h : ab_isI (ls 2) = true) : ab_Run ab_mt 66 27 ls st w = ab_Run ab_mt 66 28 ls (ab_gv (ls 2) :: st) w := E_loadi (n := 1) rfl h
theorem e_66_28 {ls : ab_L} {w : ab_W} {x : Int32} : ab_Run ab_mt 66 28 ls [.int x] w = some (.inl (some (.int x)), w) := E_reti rfl
theorem rv_66 {σ : ab_S} {x0 : Int32} {x1 : Nat} : ab_recv ab_mt 66 [.int x0, .ref x1] σ = true := rfl
theorem e_67_0 {ls : ab_L} {st : List Value} {w : ab_W} : ab_Run ab_mt 67 0 ls st w = ab_Run ab_mt 67 1 ls (.int (-1) :: st) w := E_push (n := 1) rfl
theorem e_67_1 {ls : ab_L} {st : List Value} {w : ab_W} {x : Int32} : ab_Run ab_mt 67 1 ls (.int x :: st) w = ab_Run ab_mt 67 2 (ab_l1 ls 3 (.int x)) st w := E_stori (n := 1) rfl
theorem e_67_2 {ls : ab_L} {st : List Value} {w : ab_W} : ab_Run ab_mt 67 2 ls st w = ab_Run ab_mt 67 3 ls (.int (-1) :: st) w := E_push (n := 1) rfl
theorem e_67_3 {ls : ab_L} {st : List Value} {w : ab_W} {x : Int32} : ab_Run ab_mt 67 3 ls (.int x :: st) w = ab_Run ab_mt 67 5 (ab_l1 ls 4 (.int x)) st w := E_stori (n := 2) rfl
theorem e_67_5 {ls : ab_L} {st : List Value} {w : ab_W} : ab_Run ab_mt 67 5 ls st w = ab_Run ab_mt 67 6 ls (.int (nI 0) :: st) w := E_push (n := 1) rfl
theorem e_67_6 {ls : ab_L} {st : List Value} {w : ab_W} {x : Int32} : ab_Run ab_mt 67 6 ls (.int x :: st) w = ab_Run ab_mt 67 8 (ab_l1 ls 5 (.int x)) st w := E_stori (n := 2) rfl
theorem e_67_8 {ls : ab_L} {st : List Value} {w : ab_W} (h : ab_isI (ls 5) = true) : ab_Run ab_mt 67 8 ls st w = ab_Run ab_mt 67 10 ls (ab_gv (ls 5) :: st) w := E_loadi (n := 2) rfl h
theorem e_67_10 {ls : ab_L} {st : List Value} {w : ab_W} (h : ab_isR (ls 1) = true) : ab_Run ab_mt 67 10 ls st w = ab_Run ab_mt 67 11 ls (ab_gv (ls 1) :: st) w := E_loadr (n := 1) rfl h
theorem e_67_11 {ls : ab_L} {st : List Value} {w : ab_W} : ab_Run ab_mt 67 11 ls st w = ab_Run ab_mt 67 12 ls (.int (nI 1) :: st) w := E_push (n := 1) rfl
theorem e_67_12 {ls : ab_L} {st : List Value} {w : ab_W} {a : Nat} {i : Int32} (h : ab_inI i (w.2 a) = true) : ab_Run ab_mt 67 12 ls (.int i :: .ref a :: st) w = ab_Run ab_mt 67 13 ls (.int (ab_aI i.toNatClampNeg (w.2 a)) :: st) w := E_iald rfl h
theorem e_67_13 {ls : ab_L} {st : List Value} {w : ab_W} {x y : Int32} : ab_Run ab_mt 67 13 ls (.int y :: .int x :: st) w = if y ≤ x then ab_Run ab_mt 67 79 ls st w else ab_Run ab_mt 67 16 ls st w := E_ic_ge rfl
theorem e_67_16 {ls : ab_L} {st : List Value} {w : ab_W} (h : ab_isR (ls 2) = true) : ab_Run ab_mt 67 16 ls st w = ab_Run ab_mt 67 17 ls (ab_gv (ls 2) :: st) w := E_loadr (n := 1) rfl h
theorem e_67_17 {ls : ab_L} {st : List Value} {w : ab_W} : ab_Run ab_mt 67 17 ls st w = ab_Run ab_mt 67 18 ls (.int (nI 3) :: st) w := E_push (n := 1) rfl
theorem e_67_18 {ls : ab_L} {st : List Value} {w : ab_W} (h : ab_isI (ls 5) = true) : ab_Run ab_mt 67 18 ls st w = ab_Run ab_mt 67 20 ls (ab_gv (ls 5) :: st) w := E_loadi (n := 2) rfl h
theorem e_67_20 {ls : ab_L} {st : List Value} {w : ab_W} {x y : Int32} : ab_Run ab_mt 67 20 ls (.int y :: .int x :: st) w = ab_Run ab_mt 67 21 ls (.int (x * y) :: st) w := E_ib (f := fun x y => x * y) rfl
theorem e_67_21 {ls : ab_L} {st : List Value} {w : ab_W} {a : Nat} {i : Int32} (h : ab_inI i (w.2 a) = true) : ab_Run ab_mt 67 21 ls (.int i :: .ref a :: st) w = ab_Run ab_mt 67 22 ls (.int (ab_aI i.toNatClampNeg (w.2 a)) :: st) w := E_iald rfl h
theorem e_67_22 {ls : ab_L} {st : List Value} {w : ab_W} {x : Int32} : ab_Run ab_mt 67 22 ls (.int x :: st) w = ab_Run ab_mt 67 24 (ab_l1 ls 6 (.int x)) st w := E_stori (n := 2) rfl
theorem e_67_24 {ls : ab_L} {st : List Value} {w : ab_W} (h : ab_isI (ls 6) = true) : ab_Run ab_mt 67 24 ls st w = ab_Run ab_mt 67 26 ls (ab_gv (ls 6) :: st) w := E_loadi (n := 2) rfl h
theorem e_67_26 {ls : ab_L} {st : List Value} {w : ab_W} (h : ab_isI (ls 0) = true) : ab_Run ab_mt 67 26 ls st w = ab_Run ab_mt 67 27 ls (ab_gv (ls 0) :: st) w := E_loadi (n := 1) rfl h
theorem e_67_27 {ls : ab_L} {st : List Value} {w : ab_W} {x y : Int32} : ab_Run ab_mt 67 27 ls (.int y :: .int x :: st) w = if y < x then ab_Run ab_mt 67 47 ls st w else ab_Run ab_mt 67 30 ls st w := E_ic_gt rfl
theorem e_67_30 {ls : ab_L} {st : List Value} {w : ab_W} (h : ab_isI (ls 3) = true) : ab_Run ab_mt 67 30 ls st w = ab_Run ab_mt 67 31 ls (ab_gv (ls 3) :: st) w := E_loadi (n := 1) rfl h
theorem e_67_31 {ls : ab_L} {st : List Value} {w : ab_W} {x : Int32} : ab_Run ab_mt 67 31 ls (.int x :: st) w = if x < 0 then ab_Run ab_mt 67 44 ls st w else ab_Run ab_mt 67 34 ls st w := E_if_lt rfl
theorem e_67_34 {ls : ab_L} {st : List Value} {w : ab_W} (h : ab_isI (ls 6) = true) : ab_Run ab_mt 67 34 ls st w = ab_Run ab_mt 67 36 ls (ab_gv (ls 6) :: st) w := E_loadi (n := 2) rfl h
theorem e_67_36 {ls : ab_L} {st : List Value} {w : ab_W} (h : ab_isR (ls 2) = true) : ab_Run ab_mt 67 36 ls st w = ab_Run ab_mt 67 37 ls (ab_gv (ls 2) :: st) w := E_loadr (n := 1) rfl h
theorem e_67_37 {ls : ab_L} {st : List Value} {w : ab_W} : ab_Run ab_mt 67 37 ls st w = ab_Run ab_mt 67 38 ls (.int (nI 3) :: st) w := E_push (n := 1) rfl
theorem e_67_38 {ls : ab_L} {st : List Value} {w : ab_W} (h : ab_isI (ls 3) = true) : ab_Run ab_mt 67 38 ls st w = ab_Run ab_mt 67 39 ls (ab_gv (ls 3) :: st) w := E_loadi (n := 1) rfl h
theorem e_67_39 {ls : ab_L} {st : List Value} {w : ab_W} {x y : Int32} : ab_Run ab_mt 67 39 ls (.int y :: .int x :: st) w = ab_Run ab_mt 67 40 ls (.int (x * y) :: st) w := E_ib (f := fun x y => x * y) rfl
theorem e_67_40 {ls : ab_L} {st : List Value} {w : ab_W} {a : Nat} {i : Int32} (h : ab_inI i (w.2 a) = true) : ab_Run ab_mt 67 40 ls (.int i :: .ref a :: st) w = ab_Run ab_mt 67 41 ls (.int (ab_aI i.toNatClampNeg (w.2 a)) :: st) w := E_iald rfl h
theorem e_67_41 {ls : ab_L} {st : List Value} {w : ab_W} {x y : Int32} : ab_Run ab_mt 67 41 ls (.int y :: .int x :: st) w = if x ≤ y then ab_Run ab_mt 67 47 ls st w else ab_Run ab_mt 67 44 ls st w := E_ic_le rfl
theorem e_67_44 {ls : ab_L} {st : List Value} {w : ab_W} (h : ab_isI (ls 5) = true) : ab_Run ab_mt 67 44 ls st w = ab_Run ab_mt 67 46 ls (ab_gv (ls 5) :: st) w := E_loadi (n := 2) rfl h
theorem e_67_46 {ls : ab_L} {st : List Value} {w : ab_W} {x : Int32} : ab_Run ab_mt 67 46 ls (.int x :: st) w = ab_Run ab_mt 67 47 (ab_l1 ls 3 (.int x)) st w := E_stori (n := 1) rfl
theorem e_67_47 {ls : ab_L} {st : List Value} {w : ab_W} (h : ab_isI (ls 6) = true) : ab_Run ab_mt 67 47 ls st w = ab_Run ab_mt 67 49 ls (ab_gv (ls 6) :: st) w := E_loadi (n := 2) rfl h
theorem e_67_49 {ls : ab_L} {st : List Value} {w : ab_W} (h : ab_isI (ls 0) = true) : ab_Run ab_mt 67 49 ls st w = ab_Run ab_mt 67 50 ls (ab_gv (ls 0) :: st) w := E_loadi (n := 1) rfl h
theorem e_67_50 {ls : ab_L} {st : List Value} {w : ab_W} {x y : Int32} : ab_Run ab_mt 67 50 ls (.int y :: .int x :: st) w = if x ≤ y then ab_Run ab_mt 67 73 ls st w else ab_Run ab_mt 67 53 ls st w := E_ic_le rfl
theorem e_67_53 {ls : ab_L} {st : List Value} {w : ab_W} (h : ab_isI (ls 4) = true) : ab_Run ab_mt 67 53 ls st w = ab_Run ab_mt 67 55 ls (ab_gv (ls 4) :: st) w := E_loadi (n := 2) rfl h
theorem e_67_55 {ls : ab_L} {st : List Value} {w : ab_W} {x : Int32} : ab_Run ab_mt 67 55 ls (.int x :: st) w = if x < 0 then ab_Run ab_mt 67 69 ls st w else ab_Run ab_mt 67 58 ls st w := E_if_lt rfl
theorem e_67_58 {ls : ab_L} {st : List Value} {w : ab_W} (h : ab_isI (ls 6) = true) : ab_Run ab_mt 67 58 ls st w = ab_Run ab_mt 67 60 ls (ab_gv (ls 6) :: st) w := E_loadi (n := 2) rfl h
theorem e_67_60 {ls : ab_L} {st : List Value} {w : ab_W} (h : ab_isR (ls 2) = true) : ab_Run ab_mt 67 60 ls st w = ab_Run ab_mt 67 61 ls (ab_gv (ls 2) :: st) w := E_loadr (n := 1) rfl h
theorem e_67_61 {ls : ab_L} {st : List Value} {w : ab_W} : ab_Run ab_mt 67 61 ls st w = ab_Run ab_mt 67 62 ls (.int (nI 3) :: st) w := E_push (n := 1) rfl
theorem e_67_62 {ls : ab_L} {st : List Value} {w : ab_W} (h : ab_isI (ls 4) = true) : ab_Run ab_mt 67 62 ls st w = ab_Run ab_mt 67 64 ls (ab_gv (ls 4) :: st) w := E_loadi (n := 2) rfl h
theorem e_67_64 {ls : ab_L} {st : List Value} {w : ab_W} {x y : Int32} : ab_Run ab_mt 67 64 ls (.int y :: .int x :: st) w = ab_Run ab_mt 67 65 ls (.int (x * y) :: st) w := E_ib (f := fun x y => x * y) rfl
theorem e_67_65 {ls : ab_L} {st : List Value} {w : ab_W} {a : Nat} {i : Int32} (h : ab_inI i (w.2 a) = true) : ab_Run ab_mt 67 65 ls (.int i :: .ref a :: st) w = ab_Run ab_mt 67 66 ls (.int (ab_aI i.toNatClampNeg (w.2 a)) :: st) w := E_iald rfl h
theorem e_67_66 {ls : ab_L} {st : List Value} {w : ab_W} {x y : Int32} : ab_Run ab_mt 67 66 ls (.int y :: .int x :: st) w = if y ≤ x then ab_Run ab_mt 67 73 ls st w else ab_Run ab_mt 67 69 ls st w := E_ic_ge rfl
theorem e_67_69 {ls : ab_L} {st : List Value} {w : ab_W} (h : ab_isI (ls 5) = true) : ab_Run ab_mt 67 69 ls st w = ab_Run ab_mt 67 71 ls (ab_gv (ls 5) :: st) w := E_loadi (n := 2) rfl h
theorem e_67_71 {ls : ab_L} {st : List Value} {w : ab_W} {x : Int32} : ab_Run ab_mt 67 71 ls (.int x :: st) w = ab_Run ab_mt 67 73 (ab_l1 ls 4 (.int x)) st w := E_stori (n := 2) rfl
theorem e_67_73 {ls : ab_L} {st : List Value} {w : ab_W} (h : ab_isI (ls 5) = true) : ab_Run ab_mt 67 73 ls st w = ab_Run ab_mt 67 76 (ab_l1 ls 5 (.int (ab_gi (ls 5) + (nI 1)))) st w := E_iinc rfl h
theorem e_67_76 {ls : ab_L} {st : List Value} {w : ab_W} : ab_Run ab_mt 67 76 ls st w = ab_Run ab_mt 67 8 ls st w := E_goto rfl
theorem e_67_79 {ls : ab_L} {st : List Value} {w : ab_W} (h : ab_isI (ls 3) = true) : ab_Run ab_mt 67 79 ls st w = ab_Run ab_mt 67 80 ls (ab_gv (ls 3) :: st) w := E_loadi (n := 1) rfl h
theorem e_67_80 {ls : ab_L} {st : List Value} {w : ab_W} {x : Int32} : ab_Run ab_mt 67 80 ls (.int x :: st) w = if 0 ≤ x then ab_Run ab_mt 67 87 ls st w else ab_Run ab_mt 67 83 ls st w := E_if_ge rfl
theorem e_67_83 {ls : ab_L} {st : List Value} {w : ab_W} : ab_Run ab_mt 67 83 ls st w = ab_Run ab_mt 67 86 ls (.int (nI 1200) :: st) w := E_push (n := 3) rfl
theorem e_67_86 {ls : ab_L} {w : ab_W} {x : Int32} : ab_Run ab_mt 67 86 ls [.int x] w = some (.inl (some (.int x)), w) := E_reti rfl
theorem e_67_87 {ls : ab_L} {st : List Value} {w : ab_W} (h : ab_isR (ls 2) = true) : ab_Run ab_mt 67 87 ls st w = ab_Run ab_mt 67 88 ls (ab_gv (ls 2) :: st) w := E_loadr (n := 1) rfl h
theorem e_67_88 {ls : ab_L} {st : List Value} {w : ab_W} : ab_Run ab_mt 67 88 ls st w = ab_Run ab_mt 67 89 ls (.int (nI 3) :: st) w := E_push (n := 1) rfl
theorem e_67_89 {ls : ab_L} {st : List Value} {w : ab_W} (h : ab_isI (ls 3) = true) : ab_Run ab_mt 67 89 ls st w = ab_Run ab_mt 67 90 ls (ab_gv (ls 3) :: st) w := E_loadi (n := 1) rfl h
theorem e_67_90 {ls : ab_L} {st : List Value} {w : ab_W} {x y : Int32} : ab_Run ab_mt 67 90 ls (.int y :: .int x :: st) w = ab_Run ab_mt 67 91 ls (.int (x * y) :: st) w := E_ib (f := fun x y => x * y) rfl
theorem e_67_91 {ls : ab_L} {st : List Value} {w : ab_W} : ab_Run ab_mt 67 91 ls st w = ab_Run ab_mt 67 92 ls (.int (nI 1) :: st) w := E_push (n := 1) rfl
theorem e_67_92 {ls : ab_L} {st : List Value} {w : ab_W} {x y : Int32} : ab_Run ab_mt 67 92 ls (.int y :: .int x :: st) w = ab_Run ab_mt 67 93 ls (.int (x + y) :: st) w := E_ib (f := fun x y => x + y) rfl
theorem e_67_93 {ls : ab_L} {st : List Value} {w : ab_W} {a : Nat} {i : Int32} (h : ab_inI i (w.2 a) = true) : ab_Run ab_mt 67 93 ls (.int i :: .ref a :: st) w = ab_Run ab_mt 67 94 ls (.int (ab_aI i.toNatClampNeg (w.2 a)) :: st) w := E_iald rfl h
theorem e_67_94 {ls : ab_L} {st : List Value} {w : ab_W} {x : Int32} : ab_Run ab_mt 67 94 ls (.int x :: st) w = ab_Run ab_mt 67 96 (ab_l1 ls 5 (.int x)) st w := E_stori (n := 2) rfl
theorem e_67_96 {ls : ab_L} {st : List Value} {w : ab_W} (h : ab_isR (ls 2) = true) : ab_Run ab_mt 67 96 ls st w = ab_Run ab_mt 67 97 ls (ab_gv (ls 2) :: st) w := E_loadr (n := 1) rfl h
theorem e_67_97 {ls : ab_L} {st : List Value} {w : ab_W} : ab_Run ab_mt 67 97 ls st w = ab_Run ab_mt 67 98 ls (.int (nI 3) :: st) w := E_push (n := 1) rfl
theorem e_67_98 {ls : ab_L} {st : List Value} {w : ab_W} (h : ab_isI (ls 3) = true) : ab_Run ab_mt 67 98 ls st w = ab_Run ab_mt 67 99 ls (ab_gv (ls 3) :: st) w := E_loadi (n := 1) rfl h
theorem e_67_99 {ls : ab_L} {st : List Value} {w : ab_W} {x y : Int32} : ab_Run ab_mt 67 99 ls (.int y :: .int x :: st) w = ab_Run ab_mt 67 100 ls (.int (x * y) :: st) w := E_ib (f := fun x y => x * y) rfl
theorem e_67_100 {ls : ab_L} {st : List Value} {w : ab_W} : ab_Run ab_mt 67 100 ls st w = ab_Run ab_mt 67 101 ls (.int (nI 2) :: st) w := E_push (n := 1) rfl
theorem e_67_101 {ls : ab_L} {st : List Value} {w : ab_W} {x y : Int32} : ab_Run ab_mt 67 101 ls (.int y :: .int x :: st) w = ab_Run ab_mt 67 102 ls (.int (x + y) :: st) w := E_ib (f := fun x y => x + y) rfl
theorem e_67_102 {ls : ab_L} {st : List Value} {w : ab_W} {a : Nat} {i : Int32} (h : ab_inI i (w.2 a) = true) : ab_Run ab_mt 67 102 ls (.int i :: .ref a :: st) w = ab_Run ab_mt 67 103 ls (.int (ab_aI i.toNatClampNeg (w.2 a)) :: st) w := E_iald rfl h
theorem e_67_103 {ls : ab_L} {st : List Value} {w : ab_W} {x : Int32} : ab_Run ab_mt 67 103 ls (.int x :: st) w = if x = 0 then ab_Run ab_mt 67 111 ls st w else ab_Run ab_mt 67 106 ls st w := E_if_eq rfl
theorem e_67_106 {ls : ab_L} {st : List Value} {w : ab_W} (h : ab_isI (ls 4) = true) : ab_Run ab_mt 67 106 ls st w = ab_Run ab_mt 67 108 ls (ab_gv (ls 4) :: st) w := E_loadi (n := 2) rfl h
theorem e_67_108 {ls : ab_L} {st : List Value} {w : ab_W} {x : Int32} : ab_Run ab_mt 67 108 ls (.int x :: st) w = if 0 ≤ x then ab_Run ab_mt 67 114 ls st w else ab_Run ab_mt 67 111 ls st w := E_if_ge rfl
theorem e_67_111 {ls : ab_L} {st : List Value} {w : ab_W} (h : ab_isI (ls 5) = true) : ab_Run ab_mt 67 111 ls st w = ab_Run ab_mt 67 113 ls (ab_gv (ls 5) :: st) w := E_loadi (n := 2) rfl h
theorem e_67_113 {ls : ab_L} {w : ab_W} {x : Int32} : ab_Run ab_mt 67 113 ls [.int x] w = some (.inl (some (.int x)), w) := E_reti rfl
theorem e_67_114 {ls : ab_L} {st : List Value} {w : ab_W} (h : ab_isR (ls 2) = true) : ab_Run ab_mt 67 114 ls st w = ab_Run ab_mt 67 115 ls (ab_gv (ls 2) :: st) w := E_loadr (n := 1) rfl h
theorem e_67_115 {ls : ab_L} {st : List Value} {w : ab_W} : ab_Run ab_mt 67 115 ls st w = ab_Run ab_mt 67 116 ls (.int (nI 3) :: st) w := E_push (n := 1) rfl
theorem e_67_116 {ls : ab_L} {st : List Value} {w : ab_W} (h : ab_isI (ls 4) = true) : ab_Run ab_mt 67 116 ls st w = ab_Run ab_mt 67 118 ls (ab_gv (ls 4) :: st) w := E_loadi (n := 2) rfl h
theorem e_67_118 {ls : ab_L} {st : List Value} {w : ab_W} {x y : Int32} : ab_Run ab_mt 67 118 ls (.int y :: .int x :: st) w = ab_Run ab_mt 67 119 ls (.int (x * y) :: st) w := E_ib (f := fun x y => x * y) rfl
theorem e_67_119 {ls : ab_L} {st : List Value} {w : ab_W} : ab_Run ab_mt 67 119 ls st w = ab_Run ab_mt 67 120 ls (.int (nI 1) :: st) w := E_push (n := 1) rfl
theorem e_67_120 {ls : ab_L} {st : List Value} {w : ab_W} {x y : Int32} : ab_Run ab_mt 67 120 ls (.int y :: .int x :: st) w = ab_Run ab_mt 67 121 ls (.int (x + y) :: st) w := E_ib (f := fun x y => x + y) rfl
theorem e_67_121 {ls : ab_L} {st : List Value} {w : ab_W} {a : Nat} {i : Int32} (h : ab_inI i (w.2 a) = true) : ab_Run ab_mt 67 121 ls (.int i :: .ref a :: st) w = ab_Run ab_mt 67 122 ls (.int (ab_aI i.toNatClampNeg (w.2 a)) :: st) w := E_iald rfl h
theorem e_67_122 {ls : ab_L} {st : List Value} {w : ab_W} (h : ab_isI (ls 5) = true) : ab_Run ab_mt 67 122 ls st w = ab_Run ab_mt 67 124 ls (ab_gv (ls 5) :: st) w := E_loadi (n := 2) rfl h
theorem e_67_124 {ls : ab_L} {st : List Value} {w : ab_W} {x y : Int32} : ab_Run ab_mt 67 124 ls (.int y :: .int x :: st) w = ab_Run ab_mt 67 125 ls (.int (x - y) :: st) w := E_ib (f := fun x y => x - y) rfl
theorem e_67_125 {ls : ab_L} {st : List Value} {w : ab_W} {x : Int32} : ab_Run ab_mt 67 125 ls (.int x :: st) w = ab_Run ab_mt 67 127 (ab_l1 ls 6 (.int x)) st w := E_stori (n := 2) rfl
theorem e_67_127 {ls : ab_L} {st : List Value} {w : ab_W} (h : ab_isI (ls 6) = true) : ab_Run ab_mt 67 127 ls st w = ab_Run ab_mt 67 129 ls (ab_gv (ls 6) :: st) w := E_loadi (n := 2) rfl h
theorem e_67_129 {ls : ab_L} {st : List Value} {w : ab_W} {x : Int32} : ab_Run ab_mt 67 129 ls (.int x :: st) w = if 0 ≤ x then ab_Run ab_mt 67 138 ls st w else ab_Run ab_mt 67 132 ls st w := E_if_ge rfl
theorem e_67_132 {ls : ab_L} {st : List Value} {w : ab_W} (h : ab_isI (ls 6) = true) : ab_Run ab_mt 67 132 ls st w = ab_Run ab_mt 67 134 ls (ab_gv (ls 6) :: st) w := E_loadi (n := 2) rfl h
theorem e_67_134 {ls : ab_L} {st : List Value} {w : ab_W} {x : Int32} : ab_Run ab_mt 67 134 ls (.int x :: st) w = ab_Run ab_mt 67 135 ls (.int (-x) :: st) w := E_ing rfl
theorem e_67_135 {ls : ab_L} {st : List Value} {w : ab_W} : ab_Run ab_mt 67 135 ls st w = ab_Run ab_mt 67 140 ls st w := E_goto rfl
theorem e_67_138 {ls : ab_L} {st : List Value} {w : ab_W} (h : ab_isI (ls 6) = true) : ab_Run ab_mt 67 138 ls st w = ab_Run ab_mt 67 140 ls (ab_gv (ls 6) :: st) w := E_loadi (n := 2) rfl h
theorem e_67_140 {ls : ab_L} {st : List Value} {w : ab_W} (h : ab_isI (ls 0) = true) : ab_Run ab_mt 67 140 ls st w = ab_Run ab_mt 67 141 ls (ab_gv (ls 0) :: st) w := E_loadi (n := 1) rfl h
theorem e_67_141 {ls : ab_L} {st : List Value} {w : ab_W} (h : ab_isR (ls 2) = true) : ab_Run ab_mt 67 141 ls st w = ab_Run ab_mt 67 142 ls (ab_gv (ls 2) :: st) w := E_loadr (n := 1) rfl h
theorem e_67_142 {ls : ab_L} {st : List Value} {w : ab_W} : ab_Run ab_mt 67 142 ls st w = ab_Run ab_mt 67 143 ls (.int (nI 3) :: st) w := E_push (n := 1) rfl
theorem e_67_143 {ls : ab_L} {st : List Value} {w : ab_W} (h : ab_isI (ls 3) = true) : ab_Run ab_mt 67 143 ls st w = ab_Run ab_mt 67 144 ls (ab_gv (ls 3) :: st) w := E_loadi (n := 1) rfl h
theorem e_67_144 {ls : ab_L} {st : List Value} {w : ab_W} {x y : Int32} : ab_Run ab_mt 67 144 ls (.int y :: .int x :: st) w = ab_Run ab_mt 67 145 ls (.int (x * y) :: st) w := E_ib (f := fun x y => x * y) rfl
theorem e_67_145 {ls : ab_L} {st : List Value} {w : ab_W} {a : Nat} {i : Int32} (h : ab_inI i (w.2 a) = true) : ab_Run ab_mt 67 145 ls (.int i :: .ref a :: st) w = ab_Run ab_mt 67 146 ls (.int (ab_aI i.toNatClampNeg (w.2 a)) :: st) w := E_iald rfl h
theorem e_67_146 {ls : ab_L} {st : List Value} {w : ab_W} {x y : Int32} : ab_Run ab_mt 67 146 ls (.int y :: .int x :: st) w = ab_Run ab_mt 67 147 ls (.int (x - y) :: st) w := E_ib (f := fun x y => x - y) rfl
theorem e_67_147 {ls : ab_L} {st : List Value} {w : ab_W} {x y : Int32} : ab_Run ab_mt 67 147 ls (.int y :: .int x :: st) w = ab_Run ab_mt 67 148 ls (.int (x * y) :: st) w := E_ib (f := fun x y => x * y) rfl
theorem e_67_148 {ls : ab_L} {st : List Value} {w : ab_W} (h : ab_isR (ls 2) = true) : ab_Run ab_mt 67 148 ls st w = ab_Run ab_mt 67 149 ls (ab_gv (ls 2) :: st) w := E_loadr (n := 1) rfl h
theorem e_67_149 {ls : ab_L} {st : List Value} {w : ab_W} : ab_Run ab_mt 67 149 ls st w = ab_Run ab_mt 67 150 ls (.int (nI 3) :: st) w := E_push (n := 1) rfl
theorem e_67_150 {ls : ab_L} {st : List Value} {w : ab_W} (h : ab_isI (ls 4) = true) : ab_Run ab_mt 67 150 ls st w = ab_Run ab_mt 67 152 ls (ab_gv (ls 4) :: st) w := E_loadi (n := 2) rfl h
theorem e_67_152 {ls : ab_L} {st : List Value} {w : ab_W} {x y : Int32} : ab_Run ab_mt 67 152 ls (.int y :: .int x :: st) w = ab_Run ab_mt 67 153 ls (.int (x * y) :: st) w := E_ib (f := fun x y => x * y) rfl
theorem e_67_153 {ls : ab_L} {st : List Value} {w : ab_W} {a : Nat} {i : Int32} (h : ab_inI i (w.2 a) = true) : ab_Run ab_mt 67 153 ls (.int i :: .ref a :: st) w = ab_Run ab_mt 67 154 ls (.int (ab_aI i.toNatClampNeg (w.2 a)) :: st) w := E_iald rfl h
theorem e_67_154 {ls : ab_L} {st : List Value} {w : ab_W} (h : ab_isR (ls 2) = true) : ab_Run ab_mt 67 154 ls st w = ab_Run ab_mt 67 155 ls (ab_gv (ls 2) :: st) w := E_loadr (n := 1) rfl h
theorem e_67_155 {ls : ab_L} {st : List Value} {w : ab_W} : ab_Run ab_mt 67 155 ls st w = ab_Run ab_mt 67 156 ls (.int (nI 3) :: st) w := E_push (n := 1) rfl
theorem e_67_156 {ls : ab_L} {st : List Value} {w : ab_W} (h : ab_isI (ls 3) = true) : ab_Run ab_mt 67 156 ls st w = ab_Run ab_mt 67 157 ls (ab_gv (ls 3) :: st) w := E_loadi (n := 1) rfl h
theorem e_67_157 {ls : ab_L} {st : List Value} {w : ab_W} {x y : Int32} : ab_Run ab_mt 67 157 ls (.int y :: .int x :: st) w = ab_Run ab_mt 67 158 ls (.int (x * y) :: st) w := E_ib (f := fun x y => x * y) rfl
theorem e_67_158 {ls : ab_L} {st : List Value} {w : ab_W} {a : Nat} {i : Int32} (h : ab_inI i (w.2 a) = true) : ab_Run ab_mt 67 158 ls (.int i :: .ref a :: st) w = ab_Run ab_mt 67 159 ls (.int (ab_aI i.toNatClampNeg (w.2 a)) :: st) w := E_iald rfl h
theorem e_67_159 {ls : ab_L} {st : List Value} {w : ab_W} {x y : Int32} : ab_Run ab_mt 67 159 ls (.int y :: .int x :: st) w = ab_Run ab_mt 67 160 ls (.int (x - y) :: st) w := E_ib (f := fun x y => x - y) rfl
theorem e_67_160 {ls : ab_L} {st : List Value} {w : ab_W} {x y : Int32} (h : ¬ y = 0) : ab_Run ab_mt 67 160 ls (.int y :: .int x :: st) w = ab_Run ab_mt 67 161 ls (.int (x / y) :: st) w := E_idv (f := fun x y => x / y) rfl h
theorem e_67_161 {ls : ab_L} {st : List Value} {w : ab_W} {x : Int32} : ab_Run ab_mt 67 161 ls (.int x :: st) w = ab_Run ab_mt 67 163 (ab_l1 ls 7 (.int x)) st w := E_stori (n := 2) rfl
theorem e_67_163 {ls : ab_L} {st : List Value} {w : ab_W} (h : ab_isI (ls 6) = true) : ab_Run ab_mt 67 163 ls st w = ab_Run ab_mt 67 165 ls (ab_gv (ls 6) :: st) w := E_loadi (n := 2) rfl h
theorem e_67_165 {ls : ab_L} {st : List Value} {w : ab_W} {x : Int32} : ab_Run ab_mt 67 165 ls (.int x :: st) w = if 0 ≤ x then ab_Run ab_mt 67 176 ls st w else ab_Run ab_mt 67 168 ls st w := E_if_ge rfl
theorem e_67_168 {ls : ab_L} {st : List Value} {w : ab_W} (h : ab_isI (ls 5) = true) : ab_Run ab_mt 67 168 ls st w = ab_Run ab_mt 67 170 ls (ab_gv (ls 5) :: st) w := E_loadi (n := 2) rfl h
theorem e_67_170 {ls : ab_L} {st : List Value} {w : ab_W} (h : ab_isI (ls 7) = true) : ab_Run ab_mt 67 170 ls st w = ab_Run ab_mt 67 172 ls (ab_gv (ls 7) :: st) w := E_loadi (n := 2) rfl h
theorem e_67_172 {ls : ab_L} {st : List Value} {w : ab_W} {x y : Int32} : ab_Run ab_mt 67 172 ls (.int y :: .int x :: st) w = ab_Run ab_mt 67 173 ls (.int (x - y) :: st) w := E_ib (f := fun x y => x - y) rfl
theorem e_67_173 {ls : ab_L} {st : List Value} {w : ab_W} : ab_Run ab_mt 67 173 ls st w = ab_Run ab_mt 67 181 ls st w := E_goto rfl
theorem e_67_176 {ls : ab_L} {st : List Value} {w : ab_W} (h : ab_isI (ls 5) = true) : ab_Run ab_mt 67 176 ls st w = ab_Run ab_mt 67 178 ls (ab_gv (ls 5) :: st) w := E_loadi (n := 2) rfl h
theorem e_67_178 {ls : ab_L} {st : List Value} {w : ab_W} (h : ab_isI (ls 7) = true) : ab_Run ab_mt 67 178 ls st w = ab_Run ab_mt 67 180 ls (ab_gv (ls 7) :: st) w := E_loadi (n := 2) rfl h
theorem e_67_180 {ls : ab_L} {st : List Value} {w : ab_W} {x y : Int32} : ab_Run ab_mt 67 180 ls (.int y :: .int x :: st) w = ab_Run ab_mt 67 181 ls (.int (x + y) :: st) w := E_ib (f := fun x y => x + y) rfl
theorem e_67_181 {ls : ab_L} {w : ab_W} {x : Int32} : ab_Run ab_mt 67 181 ls [.int x] w = some (.inl (some (.int x)), w) := E_reti rfl
theorem rv_67 {σ : ab_S} {x0 : Int32} {x1 : Nat} {x2 : Nat} : ab_recv ab_mt 67 [.int x0, .ref x1, .ref x2] σ = true := rfl
theorem e_68_0 {ls : ab_L} {st : List Value} {w : ab_W} : ab_Run ab_mt 68 0 ls st w = ab_Run ab_mt 68 1 ls (.long (lN 0) :: st) w := E_push (n := 1) rfl
theorem e_68_1 {ls : ab_L} {st : List Value} {w : ab_W} {x : Int64} : ab_Run ab_mt 68 1 ls (.long x :: st) w = ab_Run ab_mt 68 3 (ab_l2 ls 4 (.long x)) st w := E_storl (n := 2) rfl
theorem e_68_3 {ls : ab_L} {st : List Value} {w : ab_W} (h : ab_isI (ls 0) = true) : ab_Run ab_mt 68 3 ls st w = ab_Run ab_mt 68 4 ls (ab_gv (ls 0) :: st) w := E_loadi (n := 1) rfl h
theorem e_68_4 {ls : ab_L} {st : List Value} {w : ab_W} {x : Int32} : ab_Run ab_mt 68 4 ls (.int x :: st) w = ab_Run ab_mt 68 6 (ab_l1 ls 6 (.int x)) st w := E_stori (n := 2) rfl
theorem e_68_6 {ls : ab_L} {st : List Value} {w : ab_W} (h : ab_isI (ls 6) = true) : ab_Run ab_mt 68 6 ls st w = ab_Run ab_mt 68 8 ls (ab_gv (ls 6) :: st) w := E_loadi (n := 2) rfl h
theorem e_68_8 {ls : ab_L} {st : List Value} {w : ab_W} (h : ab_isI (ls 0) = true) : ab_Run ab_mt 68 8 ls st w = ab_Run ab_mt 68 9 ls (ab_gv (ls 0) :: st) w := E_loadi (n := 1) rfl h
theorem e_68_9 {ls : ab_L} {st : List Value} {w : ab_W} (h : ab_isI (ls 1) = true) : ab_Run ab_mt 68 9 ls st w = ab_Run ab_mt 68 10 ls (ab_gv (ls 1) :: st) w := E_loadi (n := 1) rfl h
theorem e_68_10 {ls : ab_L} {st : List Value} {w : ab_W} {x y : Int32} : ab_Run ab_mt 68 10 ls (.int y :: .int x :: st) w = ab_Run ab_mt 68 11 ls (.int (x + y) :: st) w := E_ib (f := fun x y => x + y) rfl
theorem e_68_11 {ls : ab_L} {st : List Value} {w : ab_W} {x y : Int32} : ab_Run ab_mt 68 11 ls (.int y :: .int x :: st) w = if y ≤ x then ab_Run ab_mt 68 37 ls st w else ab_Run ab_mt 68 14 ls st w := E_ic_ge rfl
theorem e_68_14 {ls : ab_L} {st : List Value} {w : ab_W} (h : ab_isL (ls 4) = true) (h2 : (ls 5).isNone = true) : ab_Run ab_mt 68 14 ls st w = ab_Run ab_mt 68 16 ls (ab_gv (ls 4) :: st) w := E_loadl (n := 2) rfl h h2
theorem e_68_16 {ls : ab_L} {st : List Value} {w : ab_W} : ab_Run ab_mt 68 16 ls st w = ab_Run ab_mt 68 19 ls (.long (lN 600000000) :: st) w := E_push (n := 3) rfl
theorem e_68_19 {ls : ab_L} {st : List Value} {w : ab_W} (h : ab_isI (ls 6) = true) : ab_Run ab_mt 68 19 ls st w = ab_Run ab_mt 68 21 ls (ab_gv (ls 6) :: st) w := E_loadi (n := 2) rfl h
theorem e_68_21 {ls : ab_L} {st : List Value} {w : ab_W} (h : ab_isR (ls 2) = true) : ab_Run ab_mt 68 21 ls st w = ab_Run ab_mt 68 22 ls (ab_gv (ls 2) :: st) w := E_loadr (n := 1) rfl h
theorem e_68_22 {ls : ab_L} {st : List Value} {w : ab_W} (h : ab_isR (ls 3) = true) : ab_Run ab_mt 68 22 ls st w = ab_Run ab_mt 68 23 ls (ab_gv (ls 3) :: st) w := E_loadr (n := 1) rfl h
theorem e_68_23 {ls : ab_L} {st : List Value} {w : ab_W} {v0 v1 v2 : Value} (h1 : ab_recv ab_mt 67 [v0, v1, v2] w.2 = true) (h8 : ab_w8 st = true) : ab_Run ab_mt 68 23 ls (v2 :: v1 :: v0 :: st) w = ab_aft 67 68 23 ls st (ab_Cl 67 [v0, v1, v2] w) := E_call3 rfl h1 h8
theorem e_68_26 {ls : ab_L} {st : List Value} {w : ab_W} {x : Int32} : ab_Run ab_mt 68 26 ls (.int x :: st) w = ab_Run ab_mt 68 27 ls (.long x.toInt64 :: st) w := E_i2l rfl
theorem e_68_27 {ls : ab_L} {st : List Value} {w : ab_W} {x y : Int64} (h : ¬ y = 0) : ab_Run ab_mt 68 27 ls (.long y :: .long x :: st) w = ab_Run ab_mt 68 28 ls (.long (x / y) :: st) w := E_ldv (f := fun x y => x / y) rfl h
theorem e_68_28 {ls : ab_L} {st : List Value} {w : ab_W} {x y : Int64} : ab_Run ab_mt 68 28 ls (.long y :: .long x :: st) w = ab_Run ab_mt 68 29 ls (.long (x + y) :: st) w := E_lb (f := fun x y => x + y) rfl
theorem e_68_29 {ls : ab_L} {st : List Value} {w : ab_W} {x : Int64} : ab_Run ab_mt 68 29 ls (.long x :: st) w = ab_Run ab_mt 68 31 (ab_l2 ls 4 (.long x)) st w := E_storl (n := 2) rfl
theorem e_68_31 {ls : ab_L} {st : List Value} {w : ab_W} (h : ab_isI (ls 6) = true) : ab_Run ab_mt 68 31 ls st w = ab_Run ab_mt 68 34 (ab_l1 ls 6 (.int (ab_gi (ls 6) + (nI 1)))) st w := E_iinc rfl h
theorem e_68_34 {ls : ab_L} {st : List Value} {w : ab_W} : ab_Run ab_mt 68 34 ls st w = ab_Run ab_mt 68 6 ls st w := E_goto rfl
theorem e_68_37 {ls : ab_L} {st : List Value} {w : ab_W} (h : ab_isL (ls 4) = true) (h2 : (ls 5).isNone = true) : ab_Run ab_mt 68 37 ls st w = ab_Run ab_mt 68 39 ls (ab_gv (ls 4) :: st) w := E_loadl (n := 2) rfl h h2
theorem e_68_39 {ls : ab_L} {w : ab_W} {x : Int64} : ab_Run ab_mt 68 39 ls [.long x] w = some (.inl (some (.long x)), w) := E_retl rfl
theorem rv_68 {σ : ab_S} {x0 : Int32} {x1 : Int32} {x2 : Nat} {x3 : Nat} : ab_recv ab_mt 68 [.int x0, .int x1, .ref x2, .ref x3] σ = true := rfl
theorem e_69_0 {ls : ab_L} {st : List Value} {w : ab_W} (h : ab_isR (ls 2) = true) : ab_Run ab_mt 69 0 ls st w = ab_Run ab_mt 69 1 ls (ab_gv (ls 2) :: st) w := E_loadr (n := 1) rfl h
theorem e_69_1 {ls : ab_L} {st : List Value} {w : ab_W} : ab_Run ab_mt 69 1 ls st w = ab_Run ab_mt 69 2 ls (.int (nI 5) :: st) w := E_push (n := 1) rfl
theorem e_69_2 {ls : ab_L} {st : List Value} {w : ab_W} (h : ab_isI (ls 0) = true) : ab_Run ab_mt 69 2 ls st w = ab_Run ab_mt 69 3 ls (ab_gv (ls 0) :: st) w := E_loadi (n := 1) rfl h
theorem e_69_3 {ls : ab_L} {st : List Value} {w : ab_W} {x y : Int32} : ab_Run ab_mt 69 3 ls (.int y :: .int x :: st) w = ab_Run ab_mt 69 4 ls (.int (x * y) :: st) w := E_ib (f := fun x y => x * y) rfl
theorem e_69_4 {ls : ab_L} {st : List Value} {w : ab_W} : ab_Run ab_mt 69 4 ls st w = ab_Run ab_mt 69 5 ls (.int (nI 2) :: st) w := E_push (n := 1) rfl
theorem e_69_5 {ls : ab_L} {st : List Value} {w : ab_W} {x y : Int32} : ab_Run ab_mt 69 5 ls (.int y :: .int x :: st) w = ab_Run ab_mt 69 6 ls (.int (x + y) :: st) w := E_ib (f := fun x y => x + y) rfl
theorem e_69_6 {ls : ab_L} {st : List Value} {w : ab_W} {a : Nat} {i : Int32} (h : ab_inI i (w.2 a) = true) : ab_Run ab_mt 69 6 ls (.int i :: .ref a :: st) w = ab_Run ab_mt 69 7 ls (.int (ab_aI i.toNatClampNeg (w.2 a)) :: st) w := E_iald rfl h
theorem e_69_7 {ls : ab_L} {st : List Value} {w : ab_W} {x : Int32} : ab_Run ab_mt 69 7 ls (.int x :: st) w = if x ≤ 0 then ab_Run ab_mt 69 25 ls st w else ab_Run ab_mt 69 10 ls st w := E_if_le rfl
theorem e_69_10 {ls : ab_L} {st : List Value} {w : ab_W} : ab_Run ab_mt 69 10 ls st w = ab_Run ab_mt 69 13 ls (.long (lN 1000) :: st) w := E_push (n := 3) rfl
theorem e_69_13 {ls : ab_L} {st : List Value} {w : ab_W} (h : ab_isR (ls 2) = true) : ab_Run ab_mt 69 13 ls st w = ab_Run ab_mt 69 14 ls (ab_gv (ls 2) :: st) w := E_loadr (n := 1) rfl h
theorem e_69_14 {ls : ab_L} {st : List Value} {w : ab_W} : ab_Run ab_mt 69 14 ls st w = ab_Run ab_mt 69 15 ls (.int (nI 5) :: st) w := E_push (n := 1) rfl
theorem e_69_15 {ls : ab_L} {st : List Value} {w : ab_W} (h : ab_isI (ls 0) = true) : ab_Run ab_mt 69 15 ls st w = ab_Run ab_mt 69 16 ls (ab_gv (ls 0) :: st) w := E_loadi (n := 1) rfl h
theorem e_69_16 {ls : ab_L} {st : List Value} {w : ab_W} {x y : Int32} : ab_Run ab_mt 69 16 ls (.int y :: .int x :: st) w = ab_Run ab_mt 69 17 ls (.int (x * y) :: st) w := E_ib (f := fun x y => x * y) rfl
theorem e_69_17 {ls : ab_L} {st : List Value} {w : ab_W} : ab_Run ab_mt 69 17 ls st w = ab_Run ab_mt 69 18 ls (.int (nI 2) :: st) w := E_push (n := 1) rfl
theorem e_69_18 {ls : ab_L} {st : List Value} {w : ab_W} {x y : Int32} : ab_Run ab_mt 69 18 ls (.int y :: .int x :: st) w = ab_Run ab_mt 69 19 ls (.int (x + y) :: st) w := E_ib (f := fun x y => x + y) rfl
theorem e_69_19 {ls : ab_L} {st : List Value} {w : ab_W} {a : Nat} {i : Int32} (h : ab_inI i (w.2 a) = true) : ab_Run ab_mt 69 19 ls (.int i :: .ref a :: st) w = ab_Run ab_mt 69 20 ls (.int (ab_aI i.toNatClampNeg (w.2 a)) :: st) w := E_iald rfl h
theorem e_69_20 {ls : ab_L} {st : List Value} {w : ab_W} {x : Int32} : ab_Run ab_mt 69 20 ls (.int x :: st) w = ab_Run ab_mt 69 21 ls (.long x.toInt64 :: st) w := E_i2l rfl
theorem e_69_21 {ls : ab_L} {st : List Value} {w : ab_W} {x y : Int64} : ab_Run ab_mt 69 21 ls (.long y :: .long x :: st) w = ab_Run ab_mt 69 22 ls (.long (x * y) :: st) w := E_lb (f := fun x y => x * y) rfl
theorem e_69_22 {ls : ab_L} {st : List Value} {w : ab_W} : ab_Run ab_mt 69 22 ls st w = ab_Run ab_mt 69 40 ls st w := E_goto rfl
theorem e_69_25 {ls : ab_L} {st : List Value} {w : ab_W} (h : ab_isI (ls 0) = true) : ab_Run ab_mt 69 25 ls st w = ab_Run ab_mt 69 26 ls (ab_gv (ls 0) :: st) w := E_loadi (n := 1) rfl h
theorem e_69_26 {ls : ab_L} {st : List Value} {w : ab_W} (h : ab_isR (ls 2) = true) : ab_Run ab_mt 69 26 ls st w = ab_Run ab_mt 69 27 ls (ab_gv (ls 2) :: st) w := E_loadr (n := 1) rfl h
theorem e_69_27 {ls : ab_L} {st : List Value} {w : ab_W} {v0 v1 : Value} (h1 : ab_recv ab_mt 65 [v0, v1] w.2 = true) (h8 : ab_w8 st = true) : ab_Run ab_mt 69 27 ls (v1 :: v0 :: st) w = ab_aft 65 69 27 ls st (ab_Cl 65 [v0, v1] w) := E_call2 rfl h1 h8
theorem e_69_30 {ls : ab_L} {st : List Value} {w : ab_W} (h : ab_isR (ls 2) = true) : ab_Run ab_mt 69 30 ls st w = ab_Run ab_mt 69 31 ls (ab_gv (ls 2) :: st) w := E_loadr (n := 1) rfl h
theorem e_69_31 {ls : ab_L} {st : List Value} {w : ab_W} : ab_Run ab_mt 69 31 ls st w = ab_Run ab_mt 69 32 ls (.int (nI 5) :: st) w := E_push (n := 1) rfl
theorem e_69_32 {ls : ab_L} {st : List Value} {w : ab_W} (h : ab_isI (ls 0) = true) : ab_Run ab_mt 69 32 ls st w = ab_Run ab_mt 69 33 ls (ab_gv (ls 0) :: st) w := E_loadi (n := 1) rfl h
theorem e_69_33 {ls : ab_L} {st : List Value} {w : ab_W} {x y : Int32} : ab_Run ab_mt 69 33 ls (.int y :: .int x :: st) w = ab_Run ab_mt 69 34 ls (.int (x * y) :: st) w := E_ib (f := fun x y => x * y) rfl
theorem e_69_34 {ls : ab_L} {st : List Value} {w : ab_W} {a : Nat} {i : Int32} (h : ab_inI i (w.2 a) = true) : ab_Run ab_mt 69 34 ls (.int i :: .ref a :: st) w = ab_Run ab_mt 69 35 ls (.int (ab_aI i.toNatClampNeg (w.2 a)) :: st) w := E_iald rfl h
theorem e_69_35 {ls : ab_L} {st : List Value} {w : ab_W} (h : ab_isR (ls 1) = true) : ab_Run ab_mt 69 35 ls st w = ab_Run ab_mt 69 36 ls (ab_gv (ls 1) :: st) w := E_loadr (n := 1) rfl h
theorem e_69_36 {ls : ab_L} {st : List Value} {w : ab_W} (h : ab_isR (ls 3) = true) : ab_Run ab_mt 69 36 ls st w = ab_Run ab_mt 69 37 ls (ab_gv (ls 3) :: st) w := E_loadr (n := 1) rfl h
theorem e_69_37 {ls : ab_L} {st : List Value} {w : ab_W} {v0 v1 v2 v3 : Value} (h1 : ab_recv ab_mt 68 [v0, v1, v2, v3] w.2 = true) (h8 : ab_w8 st = true) : ab_Run ab_mt 69 37 ls (v3 :: v2 :: v1 :: v0 :: st) w = ab_aft 68 69 37 ls st (ab_Cl 68 [v0, v1, v2, v3] w) := E_call4 rfl h1 h8
theorem e_69_40 {ls : ab_L} {w : ab_W} {x : Int64} : ab_Run ab_mt 69 40 ls [.long x] w = some (.inl (some (.long x)), w) := E_retl rfl
theorem rv_69 {σ : ab_S} {x0 : Int32} {x1 : Nat} {x2 : Nat} {x3 : Nat} : ab_recv ab_mt 69 [.int x0, .ref x1, .ref x2, .ref x3] σ = true := rfl
theorem e_70_0 {ls : ab_L} {st : List Value} {w : ab_W} : ab_Run ab_mt 70 0 ls st w = ab_Run ab_mt 70 1 ls (.long (lN 0) :: st) w := E_push (n := 1) rfl
theorem e_70_1 {ls : ab_L} {st : List Value} {w : ab_W} {x : Int64} : ab_Run ab_mt 70 1 ls (.long x :: st) w = ab_Run ab_mt 70 3 (ab_l2 ls 4 (.long x)) st w := E_storl (n := 2) rfl
theorem e_70_3 {ls : ab_L} {st : List Value} {w : ab_W} : ab_Run ab_mt 70 3 ls st w = ab_Run ab_mt 70 4 ls (.int (nI 0) :: st) w := E_push (n := 1) rfl
theorem e_70_4 {ls : ab_L} {st : List Value} {w : ab_W} {x : Int32} : ab_Run ab_mt 70 4 ls (.int x :: st) w = ab_Run ab_mt 70 6 (ab_l1 ls 6 (.int x)) st w := E_stori (n := 2) rfl
theorem e_70_6 {ls : ab_L} {st : List Value} {w : ab_W} (h : ab_isI (ls 6) = true) : ab_Run ab_mt 70 6 ls st w = ab_Run ab_mt 70 8 ls (ab_gv (ls 6) :: st) w := E_loadi (n := 2) rfl h
theorem e_70_8 {ls : ab_L} {st : List Value} {w : ab_W} (h : ab_isI (ls 0) = true) : ab_Run ab_mt 70 8 ls st w = ab_Run ab_mt 70 9 ls (ab_gv (ls 0) :: st) w := E_loadi (n := 1) rfl h
theorem e_70_9 {ls : ab_L} {st : List Value} {w : ab_W} {x y : Int32} : ab_Run ab_mt 70 9 ls (.int y :: .int x :: st) w = if y ≤ x then ab_Run ab_mt 70 45 ls st w else ab_Run ab_mt 70 12 ls st w := E_ic_ge rfl
theorem e_70_12 {ls : ab_L} {st : List Value} {w : ab_W} (h : ab_isL (ls 4) = true) (h2 : (ls 5).isNone = true) : ab_Run ab_mt 70 12 ls st w = ab_Run ab_mt 70 14 ls (ab_gv (ls 4) :: st) w := E_loadl (n := 2) rfl h h2
theorem e_70_14 {ls : ab_L} {st : List Value} {w : ab_W} (h : ab_isI (ls 6) = true) : ab_Run ab_mt 70 14 ls st w = ab_Run ab_mt 70 16 ls (ab_gv (ls 6) :: st) w := E_loadi (n := 2) rfl h
theorem e_70_16 {ls : ab_L} {st : List Value} {w : ab_W} (h : ab_isR (ls 1) = true) : ab_Run ab_mt 70 16 ls st w = ab_Run ab_mt 70 17 ls (ab_gv (ls 1) :: st) w := E_loadr (n := 1) rfl h
theorem e_70_17 {ls : ab_L} {st : List Value} {w : ab_W} (h : ab_isR (ls 2) = true) : ab_Run ab_mt 70 17 ls st w = ab_Run ab_mt 70 18 ls (ab_gv (ls 2) :: st) w := E_loadr (n := 1) rfl h
theorem e_70_18 {ls : ab_L} {st : List Value} {w : ab_W} (h : ab_isR (ls 3) = true) : ab_Run ab_mt 70 18 ls st w = ab_Run ab_mt 70 19 ls (ab_gv (ls 3) :: st) w := E_loadr (n := 1) rfl h
theorem e_70_19 {ls : ab_L} {st : List Value} {w : ab_W} {v0 v1 v2 v3 : Value} (h1 : ab_recv ab_mt 69 [v0, v1, v2, v3] w.2 = true) (h8 : ab_w8 st = true) : ab_Run ab_mt 70 19 ls (v3 :: v2 :: v1 :: v0 :: st) w = ab_aft 69 70 19 ls st (ab_Cl 69 [v0, v1, v2, v3] w) := E_call4 rfl h1 h8
theorem e_70_22 {ls : ab_L} {st : List Value} {w : ab_W} : ab_Run ab_mt 70 22 ls st w = ab_Run ab_mt 70 25 ls (.long (lN 1000) :: st) w := E_push (n := 3) rfl
theorem e_70_25 {ls : ab_L} {st : List Value} {w : ab_W} (h : ab_isR (ls 2) = true) : ab_Run ab_mt 70 25 ls st w = ab_Run ab_mt 70 26 ls (ab_gv (ls 2) :: st) w := E_loadr (n := 1) rfl h
theorem e_70_26 {ls : ab_L} {st : List Value} {w : ab_W} : ab_Run ab_mt 70 26 ls st w = ab_Run ab_mt 70 27 ls (.int (nI 5) :: st) w := E_push (n := 1) rfl
theorem e_70_27 {ls : ab_L} {st : List Value} {w : ab_W} (h : ab_isI (ls 6) = true) : ab_Run ab_mt 70 27 ls st w = ab_Run ab_mt 70 29 ls (ab_gv (ls 6) :: st) w := E_loadi (n := 2) rfl h
theorem e_70_29 {ls : ab_L} {st : List Value} {w : ab_W} {x y : Int32} : ab_Run ab_mt 70 29 ls (.int y :: .int x :: st) w = ab_Run ab_mt 70 30 ls (.int (x * y) :: st) w := E_ib (f := fun x y => x * y) rfl
theorem e_70_30 {ls : ab_L} {st : List Value} {w : ab_W} : ab_Run ab_mt 70 30 ls st w = ab_Run ab_mt 70 31 ls (.int (nI 3) :: st) w := E_push (n := 1) rfl
theorem e_70_31 {ls : ab_L} {st : List Value} {w : ab_W} {x y : Int32} : ab_Run ab_mt 70 31 ls (.int y :: .int x :: st) w = ab_Run ab_mt 70 32 ls (.int (x + y) :: st) w := E_ib (f := fun x y => x + y) rfl
theorem e_70_32 {ls : ab_L} {st : List Value} {w : ab_W} {a : Nat} {i : Int32} (h : ab_inI i (w.2 a) = true) : ab_Run ab_mt 70 32 ls (.int i :: .ref a :: st) w = ab_Run ab_mt 70 33 ls (.int (ab_aI i.toNatClampNeg (w.2 a)) :: st) w := E_iald rfl h
theorem e_70_33 {ls : ab_L} {st : List Value} {w : ab_W} {x : Int32} : ab_Run ab_mt 70 33 ls (.int x :: st) w = ab_Run ab_mt 70 34 ls (.long x.toInt64 :: st) w := E_i2l rfl
theorem e_70_34 {ls : ab_L} {st : List Value} {w : ab_W} {x y : Int64} : ab_Run ab_mt 70 34 ls (.long y :: .long x :: st) w = ab_Run ab_mt 70 35 ls (.long (x * y) :: st) w := E_lb (f := fun x y => x * y) rfl
theorem e_70_35 {ls : ab_L} {st : List Value} {w : ab_W} {x y : Int64} : ab_Run ab_mt 70 35 ls (.long y :: .long x :: st) w = ab_Run ab_mt 70 36 ls (.long (x + y) :: st) w := E_lb (f := fun x y => x + y) rfl
theorem e_70_36 {ls : ab_L} {st : List Value} {w : ab_W} {x y : Int64} : ab_Run ab_mt 70 36 ls (.long y :: .long x :: st) w = ab_Run ab_mt 70 37 ls (.long (x + y) :: st) w := E_lb (f := fun x y => x + y) rfl
theorem e_70_37 {ls : ab_L} {st : List Value} {w : ab_W} {x : Int64} : ab_Run ab_mt 70 37 ls (.long x :: st) w = ab_Run ab_mt 70 39 (ab_l2 ls 4 (.long x)) st w := E_storl (n := 2) rfl
theorem e_70_39 {ls : ab_L} {st : List Value} {w : ab_W} (h : ab_isI (ls 6) = true) : ab_Run ab_mt 70 39 ls st w = ab_Run ab_mt 70 42 (ab_l1 ls 6 (.int (ab_gi (ls 6) + (nI 1)))) st w := E_iinc rfl h
theorem e_70_42 {ls : ab_L} {st : List Value} {w : ab_W} : ab_Run ab_mt 70 42 ls st w = ab_Run ab_mt 70 6 ls st w := E_goto rfl
theorem e_70_45 {ls : ab_L} {st : List Value} {w : ab_W} (h : ab_isL (ls 4) = true) (h2 : (ls 5).isNone = true) : ab_Run ab_mt 70 45 ls st w = ab_Run ab_mt 70 47 ls (ab_gv (ls 4) :: st) w := E_loadl (n := 2) rfl h h2
theorem e_70_47 {ls : ab_L} {w : ab_W} {x : Int64} : ab_Run ab_mt 70 47 ls [.long x] w = some (.inl (some (.long x)), w) := E_retl rfl
theorem rv_70 {σ : ab_S} {x0 : Int32} {x1 : Nat} {x2 : Nat} {x3 : Nat} : ab_recv ab_mt 70 [.int x0, .ref x1, .ref x2, .ref x3] σ = true := rfl
theorem e_71_0 {ls : ab_L} {st : List Value} {w : ab_W} (h : ab_isI (ls 0) = true) : ab_Run ab_mt 71 0 ls st w = ab_Run ab_mt 71 1 ls (ab_gv (ls 0) :: st) w := E_loadi (n := 1) rfl h
theorem e_71_1 {ls : ab_L} {st : List Value} {w : ab_W} (h : ab_isR (ls 3) = true) : ab_Run ab_mt 71 1 ls st w = ab_Run ab_mt 71 2 ls (ab_gv (ls 3) :: st) w := E_loadr (n := 1) rfl h
theorem e_71_2 {ls : ab_L} {st : List Value} {w : ab_W} {v0 v1 : Value} (h1 : ab_recv ab_mt 65 [v0, v1] w.2 = true) (h8 : ab_w8 st = true) : ab_Run ab_mt 71 2 ls (v1 :: v0 :: st) w = ab_aft 65 71 2 ls st (ab_Cl 65 [v0, v1] w) := E_call2 rfl h1 h8
theorem e_71_5 {ls : ab_L} {st : List Value} {w : ab_W} {x : Int32} : ab_Run ab_mt 71 5 ls (.int x :: st) w = ab_Run ab_mt 71 7 (ab_l1 ls 5 (.int x)) st w := E_stori (n := 2) rfl
theorem e_71_7 {ls : ab_L} {st : List Value} {w : ab_W} (h : ab_isI (ls 5) = true) : ab_Run ab_mt 71 7 ls st w = ab_Run ab_mt 71 9 ls (ab_gv (ls 5) :: st) w := E_loadi (n := 2) rfl h
theorem e_71_9 {ls : ab_L} {st : List Value} {w : ab_W} (h : ab_isI (ls 1) = true) : ab_Run ab_mt 71 9 ls st w = ab_Run ab_mt 71 10 ls (ab_gv (ls 1) :: st) w := E_loadi (n := 1) rfl h
theorem e_71_10 {ls : ab_L} {st : List Value} {w : ab_W} (h : ab_isR (ls 2) = true) : ab_Run ab_mt 71 10 ls st w = ab_Run ab_mt 71 11 ls (ab_gv (ls 2) :: st) w := E_loadr (n := 1) rfl h
theorem e_71_11 {ls : ab_L} {st : List Value} {w : ab_W} (h : ab_isR (ls 4) = true) : ab_Run ab_mt 71 11 ls st w = ab_Run ab_mt 71 13 ls (ab_gv (ls 4) :: st) w := E_loadr (n := 2) rfl h
theorem e_71_13 {ls : ab_L} {st : List Value} {w : ab_W} {v0 v1 v2 v3 : Value} (h1 : ab_recv ab_mt 68 [v0, v1, v2, v3] w.2 = true) (h8 : ab_w8 st = true) : ab_Run ab_mt 71 13 ls (v3 :: v2 :: v1 :: v0 :: st) w = ab_aft 68 71 13 ls st (ab_Cl 68 [v0, v1, v2, v3] w) := E_call4 rfl h1 h8
theorem e_71_16 {ls : ab_L} {st : List Value} {w : ab_W} {x : Int64} : ab_Run ab_mt 71 16 ls (.long x :: st) w = ab_Run ab_mt 71 18 (ab_l2 ls 6 (.long x)) st w := E_storl (n := 2) rfl
theorem e_71_18 {ls : ab_L} {st : List Value} {w : ab_W} (h : ab_isR (ls 3) = true) : ab_Run ab_mt 71 18 ls st w = ab_Run ab_mt 71 19 ls (ab_gv (ls 3) :: st) w := E_loadr (n := 1) rfl h
theorem e_71_19 {ls : ab_L} {st : List Value} {w : ab_W} : ab_Run ab_mt 71 19 ls st w = ab_Run ab_mt 71 20 ls (.int (nI 5) :: st) w := E_push (n := 1) rfl
theorem e_71_20 {ls : ab_L} {st : List Value} {w : ab_W} (h : ab_isI (ls 0) = true) : ab_Run ab_mt 71 20 ls st w = ab_Run ab_mt 71 21 ls (ab_gv (ls 0) :: st) w := E_loadi (n := 1) rfl h
theorem e_71_21 {ls : ab_L} {st : List Value} {w : ab_W} {x y : Int32} : ab_Run ab_mt 71 21 ls (.int y :: .int x :: st) w = ab_Run ab_mt 71 22 ls (.int (x * y) :: st) w := E_ib (f := fun x y => x * y) rfl
theorem e_71_22 {ls : ab_L} {st : List Value} {w : ab_W} : ab_Run ab_mt 71 22 ls st w = ab_Run ab_mt 71 23 ls (.int (nI 2) :: st) w := E_push (n := 1) rfl
theorem e_71_23 {ls : ab_L} {st : List Value} {w : ab_W} {x y : Int32} : ab_Run ab_mt 71 23 ls (.int y :: .int x :: st) w = ab_Run ab_mt 71 24 ls (.int (x + y) :: st) w := E_ib (f := fun x y => x + y) rfl
theorem e_71_24 {ls : ab_L} {st : List Value} {w : ab_W} {a : Nat} {i : Int32} (h : ab_inI i (w.2 a) = true) : ab_Run ab_mt 71 24 ls (.int i :: .ref a :: st) w = ab_Run ab_mt 71 25 ls (.int (ab_aI i.toNatClampNeg (w.2 a)) :: st) w := E_iald rfl h
theorem e_71_25 {ls : ab_L} {st : List Value} {w : ab_W} {x : Int32} : ab_Run ab_mt 71 25 ls (.int x :: st) w = if x ≤ 0 then ab_Run ab_mt 71 59 ls st w else ab_Run ab_mt 71 28 ls st w := E_if_le rfl
theorem e_71_28 {ls : ab_L} {st : List Value} {w : ab_W} (h : ab_isL (ls 6) = true) (h2 : (ls 7).isNone = true) : ab_Run ab_mt 71 28 ls st w = ab_Run ab_mt 71 30 ls (ab_gv (ls 6) :: st) w := E_loadl (n := 2) rfl h h2
theorem e_71_30 {ls : ab_L} {st : List Value} {w : ab_W} (h : ab_isR (ls 3) = true) : ab_Run ab_mt 71 30 ls st w = ab_Run ab_mt 71 31 ls (ab_gv (ls 3) :: st) w := E_loadr (n := 1) rfl h
theorem e_71_31 {ls : ab_L} {st : List Value} {w : ab_W} : ab_Run ab_mt 71 31 ls st w = ab_Run ab_mt 71 32 ls (.int (nI 5) :: st) w := E_push (n := 1) rfl
theorem e_71_32 {ls : ab_L} {st : List Value} {w : ab_W} (h : ab_isI (ls 0) = true) : ab_Run ab_mt 71 32 ls st w = ab_Run ab_mt 71 33 ls (ab_gv (ls 0) :: st) w := E_loadi (n := 1) rfl h
theorem e_71_33 {ls : ab_L} {st : List Value} {w : ab_W} {x y : Int32} : ab_Run ab_mt 71 33 ls (.int y :: .int x :: st) w = ab_Run ab_mt 71 34 ls (.int (x * y) :: st) w := E_ib (f := fun x y => x * y) rfl
theorem e_71_34 {ls : ab_L} {st : List Value} {w : ab_W} : ab_Run ab_mt 71 34 ls st w = ab_Run ab_mt 71 35 ls (.int (nI 2) :: st) w := E_push (n := 1) rfl
theorem e_71_35 {ls : ab_L} {st : List Value} {w : ab_W} {x y : Int32} : ab_Run ab_mt 71 35 ls (.int y :: .int x :: st) w = ab_Run ab_mt 71 36 ls (.int (x + y) :: st) w := E_ib (f := fun x y => x + y) rfl
theorem e_71_36 {ls : ab_L} {st : List Value} {w : ab_W} {a : Nat} {i : Int32} (h : ab_inI i (w.2 a) = true) : ab_Run ab_mt 71 36 ls (.int i :: .ref a :: st) w = ab_Run ab_mt 71 37 ls (.int (ab_aI i.toNatClampNeg (w.2 a)) :: st) w := E_iald rfl h
theorem e_71_37 {ls : ab_L} {st : List Value} {w : ab_W} {x : Int32} : ab_Run ab_mt 71 37 ls (.int x :: st) w = ab_Run ab_mt 71 38 ls (.long x.toInt64 :: st) w := E_i2l rfl
theorem e_71_38 {ls : ab_L} {st : List Value} {w : ab_W} {x y : Int64} : ab_Run ab_mt 71 38 ls (.long y :: .long x :: st) w = ab_Run ab_mt 71 39 ls (.long (x * y) :: st) w := E_lb (f := fun x y => x * y) rfl
theorem e_71_39 {ls : ab_L} {st : List Value} {w : ab_W} : ab_Run ab_mt 71 39 ls st w = ab_Run ab_mt 71 42 ls (.long (lN 1000) :: st) w := E_push (n := 3) rfl
theorem e_71_42 {ls : ab_L} {st : List Value} {w : ab_W} {x y : Int64} : ab_Run ab_mt 71 42 ls (.long y :: .long x :: st) w = ab_Run ab_mt 71 43 ls (.long (x * y) :: st) w := E_lb (f := fun x y => x * y) rfl
theorem e_71_43 {ls : ab_L} {st : List Value} {w : ab_W} (h : ab_isI (ls 5) = true) : ab_Run ab_mt 71 43 ls st w = ab_Run ab_mt 71 45 ls (ab_gv (ls 5) :: st) w := E_loadi (n := 2) rfl h
theorem e_71_45 {ls : ab_L} {st : List Value} {w : ab_W} (h : ab_isR (ls 3) = true) : ab_Run ab_mt 71 45 ls st w = ab_Run ab_mt 71 46 ls (ab_gv (ls 3) :: st) w := E_loadr (n := 1) rfl h
theorem e_71_46 {ls : ab_L} {st : List Value} {w : ab_W} : ab_Run ab_mt 71 46 ls st w = ab_Run ab_mt 71 47 ls (.int (nI 5) :: st) w := E_push (n := 1) rfl
theorem e_71_47 {ls : ab_L} {st : List Value} {w : ab_W} (h : ab_isI (ls 0) = true) : ab_Run ab_mt 71 47 ls st w = ab_Run ab_mt 71 48 ls (ab_gv (ls 0) :: st) w := E_loadi (n := 1) rfl h
theorem e_71_48 {ls : ab_L} {st : List Value} {w : ab_W} {x y : Int32} : ab_Run ab_mt 71 48 ls (.int y :: .int x :: st) w = ab_Run ab_mt 71 49 ls (.int (x * y) :: st) w := E_ib (f := fun x y => x * y) rfl
theorem e_71_49 {ls : ab_L} {st : List Value} {w : ab_W} {a : Nat} {i : Int32} (h : ab_inI i (w.2 a) = true) : ab_Run ab_mt 71 49 ls (.int i :: .ref a :: st) w = ab_Run ab_mt 71 50 ls (.int (ab_aI i.toNatClampNeg (w.2 a)) :: st) w := E_iald rfl h
theorem e_71_50 {ls : ab_L} {st : List Value} {w : ab_W} (h : ab_isR (ls 2) = true) : ab_Run ab_mt 71 50 ls st w = ab_Run ab_mt 71 51 ls (ab_gv (ls 2) :: st) w := E_loadr (n := 1) rfl h
theorem e_71_51 {ls : ab_L} {st : List Value} {w : ab_W} (h : ab_isR (ls 4) = true) : ab_Run ab_mt 71 51 ls st w = ab_Run ab_mt 71 53 ls (ab_gv (ls 4) :: st) w := E_loadr (n := 2) rfl h
theorem e_71_53 {ls : ab_L} {st : List Value} {w : ab_W} {v0 v1 v2 v3 : Value} (h1 : ab_recv ab_mt 68 [v0, v1, v2, v3] w.2 = true) (h8 : ab_w8 st = true) : ab_Run ab_mt 71 53 ls (v3 :: v2 :: v1 :: v0 :: st) w = ab_aft 68 71 53 ls st (ab_Cl 68 [v0, v1, v2, v3] w) := E_call4 rfl h1 h8
theorem e_71_56 {ls : ab_L} {st : List Value} {w : ab_W} {x y : Int64} (h : ¬ y = 0) : ab_Run ab_mt 71 56 ls (.long y :: .long x :: st) w = ab_Run ab_mt 71 57 ls (.long (x / y) :: st) w := E_ldv (f := fun x y => x / y) rfl h
theorem e_71_57 {ls : ab_L} {st : List Value} {w : ab_W} {x : Int64} : ab_Run ab_mt 71 57 ls (.long x :: st) w = ab_Run ab_mt 71 59 (ab_l2 ls 6 (.long x)) st w := E_storl (n := 2) rfl
theorem e_71_59 {ls : ab_L} {st : List Value} {w : ab_W} (h : ab_isI (ls 0) = true) : ab_Run ab_mt 71 59 ls st w = ab_Run ab_mt 71 60 ls (ab_gv (ls 0) :: st) w := E_loadi (n := 1) rfl h
theorem e_71_60 {ls : ab_L} {st : List Value} {w : ab_W} (h : ab_isR (ls 2) = true) : ab_Run ab_mt 71 60 ls st w = ab_Run ab_mt 71 61 ls (ab_gv (ls 2) :: st) w := E_loadr (n := 1) rfl h
theorem e_71_61 {ls : ab_L} {st : List Value} {w : ab_W} (h : ab_isR (ls 3) = true) : ab_Run ab_mt 71 61 ls st w = ab_Run ab_mt 71 62 ls (ab_gv (ls 3) :: st) w := E_loadr (n := 1) rfl h
theorem e_71_62 {ls : ab_L} {st : List Value} {w : ab_W} (h : ab_isR (ls 4) = true) : ab_Run ab_mt 71 62 ls st w = ab_Run ab_mt 71 64 ls (ab_gv (ls 4) :: st) w := E_loadr (n := 2) rfl h
theorem e_71_64 {ls : ab_L} {st : List Value} {w : ab_W} {v0 v1 v2 v3 : Value} (h1 : ab_recv ab_mt 70 [v0, v1, v2, v3] w.2 = true) (h8 : ab_w8 st = true) : ab_Run ab_mt 71 64 ls (v3 :: v2 :: v1 :: v0 :: st) w = ab_aft 70 71 64 ls st (ab_Cl 70 [v0, v1, v2, v3] w) := E_call4 rfl h1 h8
theorem e_71_67 {ls : ab_L} {st : List Value} {w : ab_W} (h : ab_isL (ls 6) = true) (h2 : (ls 7).isNone = true) : ab_Run ab_mt 71 67 ls st w = ab_Run ab_mt 71 69 ls (ab_gv (ls 6) :: st) w := E_loadl (n := 2) rfl h h2
theorem e_71_69 {ls : ab_L} {st : List Value} {w : ab_W} {x y : Int64} : ab_Run ab_mt 71 69 ls (.long y :: .long x :: st) w = ab_Run ab_mt 71 70 ls (.long (x + y) :: st) w := E_lb (f := fun x y => x + y) rfl
theorem e_71_70 {ls : ab_L} {w : ab_W} {x : Int64} : ab_Run ab_mt 71 70 ls [.long x] w = some (.inl (some (.long x)), w) := E_retl rfl
theorem rv_71 {σ : ab_S} {x0 : Int32} {x1 : Int32} {x2 : Nat} {x3 : Nat} {x4 : Nat} : ab_recv ab_mt 71 [.int x0, .int x1, .ref x2, .ref x3, .ref x4] σ = true := rfl
theorem e_72_0 {ls : ab_L} {st : List Value} {w : ab_W} (h : ab_isI (ls 0) = true) : ab_Run ab_mt 72 0 ls st w = ab_Run ab_mt 72 1 ls (ab_gv (ls 0) :: st) w := E_loadi (n := 1) rfl h
theorem e_72_1 {ls : ab_L} {st : List Value} {w : ab_W} (h : ab_isR (ls 2) = true) : ab_Run ab_mt 72 1 ls st w = ab_Run ab_mt 72 2 ls (ab_gv (ls 2) :: st) w := E_loadr (n := 1) rfl h
theorem e_72_2 {ls : ab_L} {st : List Value} {w : ab_W} {v0 v1 : Value} (h1 : ab_recv ab_mt 66 [v0, v1] w.2 = true) (h8 : ab_w8 st = true) : ab_Run ab_mt 72 2 ls (v1 :: v0 :: st) w = ab_aft 66 72 2 ls st (ab_Cl 66 [v0, v1] w) := E_call2 rfl h1 h8
theorem e_72_5 {ls : ab_L} {st : List Value} {w : ab_W} {x : Int32} : ab_Run ab_mt 72 5 ls (.int x :: st) w = ab_Run ab_mt 72 7 (ab_l1 ls 4 (.int x)) st w := E_stori (n := 2) rfl
theorem e_72_7 {ls : ab_L} {st : List Value} {w : ab_W} (h : ab_isI (ls 4) = true) : ab_Run ab_mt 72 7 ls st w = ab_Run ab_mt 72 9 ls (ab_gv (ls 4) :: st) w := E_loadi (n := 2) rfl h
theorem e_72_9 {ls : ab_L} {st : List Value} {w : ab_W} (h : ab_isI (ls 0) = true) : ab_Run ab_mt 72 9 ls st w = ab_Run ab_mt 72 10 ls (ab_gv (ls 0) :: st) w := E_loadi (n := 1) rfl h
theorem e_72_10 {ls : ab_L} {st : List Value} {w : ab_W} (h : ab_isI (ls 4) = true) : ab_Run ab_mt 72 10 ls st w = ab_Run ab_mt 72 12 ls (ab_gv (ls 4) :: st) w := E_loadi (n := 2) rfl h
theorem e_72_12 {ls : ab_L} {st : List Value} {w : ab_W} (h : ab_isR (ls 2) = true) : ab_Run ab_mt 72 12 ls st w = ab_Run ab_mt 72 13 ls (ab_gv (ls 2) :: st) w := E_loadr (n := 1) rfl h
theorem e_72_13 {ls : ab_L} {st : List Value} {w : ab_W} {v0 v1 : Value} (h1 : ab_recv ab_mt 65 [v0, v1] w.2 = true) (h8 : ab_w8 st = true) : ab_Run ab_mt 72 13 ls (v1 :: v0 :: st) w = ab_aft 65 72 13 ls st (ab_Cl 65 [v0, v1] w) := E_call2 rfl h1 h8
theorem e_72_16 {ls : ab_L} {st : List Value} {w : ab_W} {x y : Int32} : ab_Run ab_mt 72 16 ls (.int y :: .int x :: st) w = ab_Run ab_mt 72 17 ls (.int (x - y) :: st) w := E_ib (f := fun x y => x - y) rfl
theorem e_72_17 {ls : ab_L} {st : List Value} {w : ab_W} (h : ab_isR (ls 1) = true) : ab_Run ab_mt 72 17 ls st w = ab_Run ab_mt 72 18 ls (ab_gv (ls 1) :: st) w := E_loadr (n := 1) rfl h
theorem e_72_18 {ls : ab_L} {st : List Value} {w : ab_W} (h : ab_isR (ls 2) = true) : ab_Run ab_mt 72 18 ls st w = ab_Run ab_mt 72 19 ls (ab_gv (ls 2) :: st) w := E_loadr (n := 1) rfl h
theorem e_72_19 {ls : ab_L} {st : List Value} {w : ab_W} (h : ab_isR (ls 3) = true) : ab_Run ab_mt 72 19 ls st w = ab_Run ab_mt 72 20 ls (ab_gv (ls 3) :: st) w := E_loadr (n := 1) rfl h
theorem e_72_20 {ls : ab_L} {st : List Value} {w : ab_W} {v0 v1 v2 v3 v4 : Value} (h1 : ab_recv ab_mt 71 [v0, v1, v2, v3, v4] w.2 = true) (h8 : ab_w8 st = true) : ab_Run ab_mt 72 20 ls (v4 :: v3 :: v2 :: v1 :: v0 :: st) w = ab_aft 71 72 20 ls st (ab_Cl 71 [v0, v1, v2, v3, v4] w) := E_call5 rfl h1 h8
theorem e_72_23 {ls : ab_L} {w : ab_W} {x : Int64} : ab_Run ab_mt 72 23 ls [.long x] w = some (.inl (some (.long x)), w) := E_retl rfl
theorem rv_72 {σ : ab_S} {x0 : Int32} {x1 : Nat} {x2 : Nat} {x3 : Nat} : ab_recv ab_mt 72 [.int x0, .ref x1, .ref x2, .ref x3] σ = true := rfl
theorem x_72_20 {ls : ab_L} {rest : List Value} {E : Nat} {w : ab_W} : ab_aft 71 72 20 ls rest (some (.inr E, w)) = some (.inr E, w) := ab_aft_x rfl rfl (by unfold ab_hand; rfl)
theorem e_73_0 {ls : ab_L} {st : List Value} {w : ab_W} (h : ab_isI (ls 0) = true) : ab_Run ab_mt 73 0 ls st w = ab_Run ab_mt 73 1 ls (ab_gv (ls 0) :: st) w := E_loadi (n := 1) rfl h
theorem e_73_1 {ls : ab_L} {st : List Value} {w : ab_W} (h : ab_isR (ls 2) = true) : ab_Run ab_mt 73 1 ls st w = ab_Run ab_mt 73 2 ls (ab_gv (ls 2) :: st) w := E_loadr (n := 1) rfl h
theorem e_73_2 {ls : ab_L} {st : List Value} {w : ab_W} {v0 v1 : Value} (h1 : ab_recv ab_mt 66 [v0, v1] w.2 = true) (h8 : ab_w8 st = true) : ab_Run ab_mt 73 2 ls (v1 :: v0 :: st) w = ab_aft 66 73 2 ls st (ab_Cl 66 [v0, v1] w) := E_call2 rfl h1 h8
theorem e_73_5 {ls : ab_L} {st : List Value} {w : ab_W} {x : Int32} : ab_Run ab_mt 73 5 ls (.int x :: st) w = ab_Run ab_mt 73 7 (ab_l1 ls 4 (.int x)) st w := E_stori (n := 2) rfl
theorem e_73_7 {ls : ab_L} {st : List Value} {w : ab_W} (h : ab_isI (ls 0) = true) : ab_Run ab_mt 73 7 ls st w = ab_Run ab_mt 73 8 ls (ab_gv (ls 0) :: st) w := E_loadi (n := 1) rfl h
theorem e_73_8 {ls : ab_L} {st : List Value} {w : ab_W} (h : ab_isI (ls 4) = true) : ab_Run ab_mt 73 8 ls st w = ab_Run ab_mt 73 10 ls (ab_gv (ls 4) :: st) w := E_loadi (n := 2) rfl h
theorem e_73_10 {ls : ab_L} {st : List Value} {w : ab_W} (h : ab_isR (ls 2) = true) : ab_Run ab_mt 73 10 ls st w = ab_Run ab_mt 73 11 ls (ab_gv (ls 2) :: st) w := E_loadr (n := 1) rfl h
theorem e_73_11 {ls : ab_L} {st : List Value} {w : ab_W} {v0 v1 : Value} (h1 : ab_recv ab_mt 65 [v0, v1] w.2 = true) (h8 : ab_w8 st = true) : ab_Run ab_mt 73 11 ls (v1 :: v0 :: st) w = ab_aft 65 73 11 ls st (ab_Cl 65 [v0, v1] w) := E_call2 rfl h1 h8
theorem e_73_14 {ls : ab_L} {st : List Value} {w : ab_W} {x y : Int32} : ab_Run ab_mt 73 14 ls (.int y :: .int x :: st) w = ab_Run ab_mt 73 15 ls (.int (x - y) :: st) w := E_ib (f := fun x y => x - y) rfl
theorem e_73_15 {ls : ab_L} {st : List Value} {w : ab_W} {x : Int32} : ab_Run ab_mt 73 15 ls (.int x :: st) w = ab_Run ab_mt 73 17 (ab_l1 ls 5 (.int x)) st w := E_stori (n := 2) rfl
theorem e_73_17 {ls : ab_L} {st : List Value} {w : ab_W} (h : ab_isI (ls 4) = true) : ab_Run ab_mt 73 17 ls st w = ab_Run ab_mt 73 19 ls (ab_gv (ls 4) :: st) w := E_loadi (n := 2) rfl h
theorem e_73_19 {ls : ab_L} {st : List Value} {w : ab_W} (h : ab_isI (ls 5) = true) : ab_Run ab_mt 73 19 ls st w = ab_Run ab_mt 73 21 ls (ab_gv (ls 5) :: st) w := E_loadi (n := 2) rfl h
theorem e_73_21 {ls : ab_L} {st : List Value} {w : ab_W} : ab_Run ab_mt 73 21 ls st w = ab_Run ab_mt 73 22 ls (.int (nI 1) :: st) w := E_push (n := 1) rfl
theorem e_73_22 {ls : ab_L} {st : List Value} {w : ab_W} {x y : Int32} : ab_Run ab_mt 73 22 ls (.int y :: .int x :: st) w = ab_Run ab_mt 73 23 ls (.int (x + y) :: st) w := E_ib (f := fun x y => x + y) rfl
theorem e_73_23 {ls : ab_L} {st : List Value} {w : ab_W} (h : ab_isR (ls 1) = true) : ab_Run ab_mt 73 23 ls st w = ab_Run ab_mt 73 24 ls (ab_gv (ls 1) :: st) w := E_loadr (n := 1) rfl h
theorem e_73_24 {ls : ab_L} {st : List Value} {w : ab_W} (h : ab_isR (ls 2) = true) : ab_Run ab_mt 73 24 ls st w = ab_Run ab_mt 73 25 ls (ab_gv (ls 2) :: st) w := E_loadr (n := 1) rfl h
theorem e_73_25 {ls : ab_L} {st : List Value} {w : ab_W} (h : ab_isR (ls 3) = true) : ab_Run ab_mt 73 25 ls st w = ab_Run ab_mt 73 26 ls (ab_gv (ls 3) :: st) w := E_loadr (n := 1) rfl h
theorem e_73_26 {ls : ab_L} {st : List Value} {w : ab_W} {v0 v1 v2 v3 v4 : Value} (h1 : ab_recv ab_mt 71 [v0, v1, v2, v3, v4] w.2 = true) (h8 : ab_w8 st = true) : ab_Run ab_mt 73 26 ls (v4 :: v3 :: v2 :: v1 :: v0 :: st) w = ab_aft 71 73 26 ls st (ab_Cl 71 [v0, v1, v2, v3, v4] w) := E_call5 rfl h1 h8
theorem e_73_29 {ls : ab_L} {st : List Value} {w : ab_W} (h : ab_isI (ls 4) = true) : ab_Run ab_mt 73 29 ls st w = ab_Run ab_mt 73 31 ls (ab_gv (ls 4) :: st) w := E_loadi (n := 2) rfl h
theorem e_73_31 {ls : ab_L} {st : List Value} {w : ab_W} (h : ab_isI (ls 5) = true) : ab_Run ab_mt 73 31 ls st w = ab_Run ab_mt 73 33 ls (ab_gv (ls 5) :: st) w := E_loadi (n := 2) rfl h
theorem e_73_33 {ls : ab_L} {st : List Value} {w : ab_W} (h : ab_isR (ls 1) = true) : ab_Run ab_mt 73 33 ls st w = ab_Run ab_mt 73 34 ls (ab_gv (ls 1) :: st) w := E_loadr (n := 1) rfl h
theorem e_73_34 {ls : ab_L} {st : List Value} {w : ab_W} (h : ab_isR (ls 2) = true) : ab_Run ab_mt 73 34 ls st w = ab_Run ab_mt 73 35 ls (ab_gv (ls 2) :: st) w := E_loadr (n := 1) rfl h
theorem e_73_35 {ls : ab_L} {st : List Value} {w : ab_W} (h : ab_isR (ls 3) = true) : ab_Run ab_mt 73 35 ls st w = ab_Run ab_mt 73 36 ls (ab_gv (ls 3) :: st) w := E_loadr (n := 1) rfl h
theorem e_73_36 {ls : ab_L} {st : List Value} {w : ab_W} {v0 v1 v2 v3 v4 : Value} (h1 : ab_recv ab_mt 71 [v0, v1, v2, v3, v4] w.2 = true) (h8 : ab_w8 st = true) : ab_Run ab_mt 73 36 ls (v4 :: v3 :: v2 :: v1 :: v0 :: st) w = ab_aft 71 73 36 ls st (ab_Cl 71 [v0, v1, v2, v3, v4] w) := E_call5 rfl h1 h8
theorem e_73_39 {ls : ab_L} {st : List Value} {w : ab_W} {x y : Int64} : ab_Run ab_mt 73 39 ls (.long y :: .long x :: st) w = ab_Run ab_mt 73 40 ls (.long (x - y) :: st) w := E_lb (f := fun x y => x - y) rfl
theorem e_73_40 {ls : ab_L} {w : ab_W} {x : Int64} : ab_Run ab_mt 73 40 ls [.long x] w = some (.inl (some (.long x)), w) := E_retl rfl
theorem rv_73 {σ : ab_S} {x0 : Int32} {x1 : Nat} {x2 : Nat} {x3 : Nat} : ab_recv ab_mt 73 [.int x0, .ref x1, .ref x2, .ref x3] σ = true := rfl
theorem x_73_26 {ls : ab_L} {rest : List Value} {E : Nat} {w : ab_W} : ab_aft 71 73 26 ls rest (some (.inr E, w)) = some (.inr E, w) := ab_aft_x rfl rfl (by unfold ab_hand; rfl)
theorem x_73_36 {ls : ab_L} {rest : List Value} {E : Nat} {w : ab_W} : ab_aft 71 73 36 ls rest (some (.inr E, w)) = some (.inr E, w) := ab_aft_x rfl rfl (by unfold ab_hand; rfl)
theorem e_74_0 {ls : ab_L} {st : List Value} {w : ab_W} (h : ab_isR (ls 4) = true) : ab_Run ab_mt 74 0 ls st w = ab_Run ab_mt 74 2 ls (ab_gv (ls 4) :: st) w := E_loadr (n := 2) rfl h
theorem e_74_2 {ls : ab_L} {st : List Value} {w : ab_W} : ab_Run ab_mt 74 2 ls st w = ab_Run ab_mt 74 3 ls (.int (nI 3) :: st) w := E_push (n := 1) rfl
theorem e_74_3 {ls : ab_L} {st : List Value} {w : ab_W} (h : ab_isI (ls 0) = true) : ab_Run ab_mt 74 3 ls st w = ab_Run ab_mt 74 4 ls (ab_gv (ls 0) :: st) w := E_loadi (n := 1) rfl h
theorem e_74_4 {ls : ab_L} {st : List Value} {w : ab_W} {x y : Int32} : ab_Run ab_mt 74 4 ls (.int y :: .int x :: st) w = ab_Run ab_mt 74 5 ls (.int (x * y) :: st) w := E_ib (f := fun x y => x * y) rfl
theorem e_74_5 {ls : ab_L} {st : List Value} {w : ab_W} {a : Nat} {i : Int32} (h : ab_inI i (w.2 a) = true) : ab_Run ab_mt 74 5 ls (.int i :: .ref a :: st) w = ab_Run ab_mt 74 6 ls (.int (ab_aI i.toNatClampNeg (w.2 a)) :: st) w := E_iald rfl h
theorem e_74_6 {ls : ab_L} {st : List Value} {w : ab_W} (h : ab_isR (ls 1) = true) : ab_Run ab_mt 74 6 ls st w = ab_Run ab_mt 74 7 ls (ab_gv (ls 1) :: st) w := E_loadr (n := 1) rfl h
theorem e_74_7 {ls : ab_L} {st : List Value} {w : ab_W} (h : ab_isR (ls 2) = true) : ab_Run ab_mt 74 7 ls st w = ab_Run ab_mt 74 8 ls (ab_gv (ls 2) :: st) w := E_loadr (n := 1) rfl h
theorem e_74_8 {ls : ab_L} {st : List Value} {w : ab_W} (h : ab_isR (ls 3) = true) : ab_Run ab_mt 74 8 ls st w = ab_Run ab_mt 74 9 ls (ab_gv (ls 3) :: st) w := E_loadr (n := 1) rfl h
theorem e_74_9 {ls : ab_L} {st : List Value} {w : ab_W} {v0 v1 v2 v3 : Value} (h1 : ab_recv ab_mt 72 [v0, v1, v2, v3] w.2 = true) (h8 : ab_w8 st = true) : ab_Run ab_mt 74 9 ls (v3 :: v2 :: v1 :: v0 :: st) w = ab_aft 72 74 9 ls st (ab_Cl 72 [v0, v1, v2, v3] w) := E_call4 rfl h1 h8
theorem e_74_12 {ls : ab_L} {st : List Value} {w : ab_W} (h : ab_isR (ls 4) = true) : ab_Run ab_mt 74 12 ls st w = ab_Run ab_mt 74 14 ls (ab_gv (ls 4) :: st) w := E_loadr (n := 2) rfl h
theorem e_74_14 {ls : ab_L} {st : List Value} {w : ab_W} : ab_Run ab_mt 74 14 ls st w = ab_Run ab_mt 74 15 ls (.int (nI 3) :: st) w := E_push (n := 1) rfl
theorem e_74_15 {ls : ab_L} {st : List Value} {w : ab_W} (h : ab_isI (ls 0) = true) : ab_Run ab_mt 74 15 ls st w = ab_Run ab_mt 74 16 ls (ab_gv (ls 0) :: st) w := E_loadi (n := 1) rfl h
theorem e_74_16 {ls : ab_L} {st : List Value} {w : ab_W} {x y : Int32} : ab_Run ab_mt 74 16 ls (.int y :: .int x :: st) w = ab_Run ab_mt 74 17 ls (.int (x * y) :: st) w := E_ib (f := fun x y => x * y) rfl
theorem e_74_17 {ls : ab_L} {st : List Value} {w : ab_W} : ab_Run ab_mt 74 17 ls st w = ab_Run ab_mt 74 18 ls (.int (nI 1) :: st) w := E_push (n := 1) rfl
theorem e_74_18 {ls : ab_L} {st : List Value} {w : ab_W} {x y : Int32} : ab_Run ab_mt 74 18 ls (.int y :: .int x :: st) w = ab_Run ab_mt 74 19 ls (.int (x + y) :: st) w := E_ib (f := fun x y => x + y) rfl
theorem e_74_19 {ls : ab_L} {st : List Value} {w : ab_W} {a : Nat} {i : Int32} (h : ab_inI i (w.2 a) = true) : ab_Run ab_mt 74 19 ls (.int i :: .ref a :: st) w = ab_Run ab_mt 74 20 ls (.int (ab_aI i.toNatClampNeg (w.2 a)) :: st) w := E_iald rfl h
theorem e_74_20 {ls : ab_L} {st : List Value} {w : ab_W} {x : Int32} : ab_Run ab_mt 74 20 ls (.int x :: st) w = ab_Run ab_mt 74 21 ls (.long x.toInt64 :: st) w := E_i2l rfl
theorem e_74_21 {ls : ab_L} {st : List Value} {w : ab_W} (h : ab_isR (ls 4) = true) : ab_Run ab_mt 74 21 ls st w = ab_Run ab_mt 74 23 ls (ab_gv (ls 4) :: st) w := E_loadr (n := 2) rfl h
theorem e_74_23 {ls : ab_L} {st : List Value} {w : ab_W} : ab_Run ab_mt 74 23 ls st w = ab_Run ab_mt 74 24 ls (.int (nI 3) :: st) w := E_push (n := 1) rfl
theorem e_74_24 {ls : ab_L} {st : List Value} {w : ab_W} (h : ab_isI (ls 0) = true) : ab_Run ab_mt 74 24 ls st w = ab_Run ab_mt 74 25 ls (ab_gv (ls 0) :: st) w := E_loadi (n := 1) rfl h
theorem e_74_25 {ls : ab_L} {st : List Value} {w : ab_W} {x y : Int32} : ab_Run ab_mt 74 25 ls (.int y :: .int x :: st) w = ab_Run ab_mt 74 26 ls (.int (x * y) :: st) w := E_ib (f := fun x y => x * y) rfl
theorem e_74_26 {ls : ab_L} {st : List Value} {w : ab_W} {a : Nat} {i : Int32} (h : ab_inI i (w.2 a) = true) : ab_Run ab_mt 74 26 ls (.int i :: .ref a :: st) w = ab_Run ab_mt 74 27 ls (.int (ab_aI i.toNatClampNeg (w.2 a)) :: st) w := E_iald rfl h
theorem e_74_27 {ls : ab_L} {st : List Value} {w : ab_W} (h : ab_isR (ls 1) = true) : ab_Run ab_mt 74 27 ls st w = ab_Run ab_mt 74 28 ls (ab_gv (ls 1) :: st) w := E_loadr (n := 1) rfl h
theorem e_74_28 {ls : ab_L} {st : List Value} {w : ab_W} (h : ab_isR (ls 2) = true) : ab_Run ab_mt 74 28 ls st w = ab_Run ab_mt 74 29 ls (ab_gv (ls 2) :: st) w := E_loadr (n := 1) rfl h
theorem e_74_29 {ls : ab_L} {st : List Value} {w : ab_W} (h : ab_isR (ls 3) = true) : ab_Run ab_mt 74 29 ls st w = ab_Run ab_mt 74 30 ls (ab_gv (ls 3) :: st) w := E_loadr (n := 1) rfl h
theorem e_74_30 {ls : ab_L} {st : List Value} {w : ab_W} {v0 v1 v2 v3 : Value} (h1 : ab_recv ab_mt 73 [v0, v1, v2, v3] w.2 = true) (h8 : ab_w8 st = true) : ab_Run ab_mt 74 30 ls (v3 :: v2 :: v1 :: v0 :: st) w = ab_aft 73 74 30 ls st (ab_Cl 73 [v0, v1, v2, v3] w) := E_call4 rfl h1 h8
theorem e_74_33 {ls : ab_L} {st : List Value} {w : ab_W} {x y : Int64} : ab_Run ab_mt 74 33 ls (.long y :: .long x :: st) w = ab_Run ab_mt 74 34 ls (.long (x * y) :: st) w := E_lb (f := fun x y => x * y) rfl
theorem e_74_34 {ls : ab_L} {st : List Value} {w : ab_W} : ab_Run ab_mt 74 34 ls st w = ab_Run ab_mt 74 37 ls (.long (lN 480) :: st) w := E_push (n := 3) rfl
theorem e_74_37 {ls : ab_L} {st : List Value} {w : ab_W} {x y : Int64} (h : ¬ y = 0) : ab_Run ab_mt 74 37 ls (.long y :: .long x :: st) w = ab_Run ab_mt 74 38 ls (.long (x / y) :: st) w := E_ldv (f := fun x y => x / y) rfl h
theorem e_74_38 {ls : ab_L} {st : List Value} {w : ab_W} {x y : Int64} : ab_Run ab_mt 74 38 ls (.long y :: .long x :: st) w = ab_Run ab_mt 74 39 ls (.long (x + y) :: st) w := E_lb (f := fun x y => x + y) rfl
theorem e_74_39 {ls : ab_L} {w : ab_W} {x : Int64} : ab_Run ab_mt 74 39 ls [.long x] w = some (.inl (some (.long x)), w) := E_retl rfl
theorem rv_74 {σ : ab_S} {x0 : Int32} {x1 : Nat} {x2 : Nat} {x3 : Nat} {x4 : Nat} : ab_recv ab_mt 74 [.int x0, .ref x1, .ref x2, .ref x3, .ref x4] σ = true := rfl
theorem x_74_9 {ls : ab_L} {rest : List Value} {E : Nat} {w : ab_W} : ab_aft 72 74 9 ls rest (some (.inr E, w)) = some (.inr E, w) := ab_aft_x rfl rfl (by unfold ab_hand; rfl)
theorem x_74_30 {ls : ab_L} {rest : List Value} {E : Nat} {w : ab_W} : ab_aft 73 74 30 ls rest (some (.inr E, w)) = some (.inr E, w) := ab_aft_x rfl rfl (by unfold ab_hand; rfl)
theorem e_75_0 {ls : ab_L} {st : List Value} {w : ab_W} : ab_Run ab_mt 75 0 ls st w = ab_Run ab_mt 75 1 ls (.int (nI 0) :: st) w := E_push (n := 1) rfl
theorem e_75_1 {ls : ab_L} {st : List Value} {w : ab_W} {x : Int32} : ab_Run ab_mt 75 1 ls (.int x :: st) w = ab_Run ab_mt 75 2 (ab_l1 ls 3 (.int x)) st w := E_stori (n := 1) rfl
theorem e_75_2 {ls : ab_L} {st : List Value} {w : ab_W} : ab_Run ab_mt 75 2 ls st w = ab_Run ab_mt 75 3 ls (.int (nI 0) :: st) w := E_push (n := 1) rfl
theorem e_75_3 {ls : ab_L} {st : List Value} {w : ab_W} {x : Int32} : ab_Run ab_mt 75 3 ls (.int x :: st) w = ab_Run ab_mt 75 5 (ab_l1 ls 4 (.int x)) st w := E_stori (n := 2) rfl
theorem e_75_5 {ls : ab_L} {st : List Value} {w : ab_W} (h : ab_isI (ls 4) = true) : ab_Run ab_mt 75 5 ls st w = ab_Run ab_mt 75 7 ls (ab_gv (ls 4) :: st) w := E_loadi (n := 2) rfl h
theorem e_75_7 {ls : ab_L} {st : List Value} {w : ab_W} (h : ab_isR (ls 0) = true) : ab_Run ab_mt 75 7 ls st w = ab_Run ab_mt 75 8 ls (ab_gv (ls 0) :: st) w := E_loadr (n := 1) rfl h
theorem e_75_8 {ls : ab_L} {st : List Value} {w : ab_W} : ab_Run ab_mt 75 8 ls st w = ab_Run ab_mt 75 9 ls (.int (nI 2) :: st) w := E_push (n := 1) rfl
theorem e_75_9 {ls : ab_L} {st : List Value} {w : ab_W} {a : Nat} {i : Int32} (h : ab_inI i (w.2 a) = true) : ab_Run ab_mt 75 9 ls (.int i :: .ref a :: st) w = ab_Run ab_mt 75 10 ls (.int (ab_aI i.toNatClampNeg (w.2 a)) :: st) w := E_iald rfl h
theorem e_75_10 {ls : ab_L} {st : List Value} {w : ab_W} {x y : Int32} : ab_Run ab_mt 75 10 ls (.int y :: .int x :: st) w = if y ≤ x then ab_Run ab_mt 75 70 ls st w else ab_Run ab_mt 75 13 ls st w := E_ic_ge rfl
theorem e_75_13 {ls : ab_L} {st : List Value} {w : ab_W} (h : ab_isR (ls 2) = true) : ab_Run ab_mt 75 13 ls st w = ab_Run ab_mt 75 14 ls (ab_gv (ls 2) :: st) w := E_loadr (n := 1) rfl h
theorem e_75_14 {ls : ab_L} {st : List Value} {w : ab_W} : ab_Run ab_mt 75 14 ls st w = ab_Run ab_mt 75 15 ls (.int (nI 3) :: st) w := E_push (n := 1) rfl
theorem e_75_15 {ls : ab_L} {st : List Value} {w : ab_W} (h : ab_isI (ls 4) = true) : ab_Run ab_mt 75 15 ls st w = ab_Run ab_mt 75 17 ls (ab_gv (ls 4) :: st) w := E_loadi (n := 2) rfl h
theorem e_75_17 {ls : ab_L} {st : List Value} {w : ab_W} {x y : Int32} : ab_Run ab_mt 75 17 ls (.int y :: .int x :: st) w = ab_Run ab_mt 75 18 ls (.int (x * y) :: st) w := E_ib (f := fun x y => x * y) rfl
theorem e_75_18 {ls : ab_L} {st : List Value} {w : ab_W} {a : Nat} {i : Int32} (h : ab_inI i (w.2 a) = true) : ab_Run ab_mt 75 18 ls (.int i :: .ref a :: st) w = ab_Run ab_mt 75 19 ls (.int (ab_aI i.toNatClampNeg (w.2 a)) :: st) w := E_iald rfl h
theorem e_75_19 {ls : ab_L} {st : List Value} {w : ab_W} (h : ab_isR (ls 0) = true) : ab_Run ab_mt 75 19 ls st w = ab_Run ab_mt 75 20 ls (ab_gv (ls 0) :: st) w := E_loadr (n := 1) rfl h
theorem e_75_20 {ls : ab_L} {st : List Value} {w : ab_W} : ab_Run ab_mt 75 20 ls st w = ab_Run ab_mt 75 21 ls (.int (nI 0) :: st) w := E_push (n := 1) rfl
theorem e_75_21 {ls : ab_L} {st : List Value} {w : ab_W} {a : Nat} {i : Int32} (h : ab_inI i (w.2 a) = true) : ab_Run ab_mt 75 21 ls (.int i :: .ref a :: st) w = ab_Run ab_mt 75 22 ls (.int (ab_aI i.toNatClampNeg (w.2 a)) :: st) w := E_iald rfl h
theorem e_75_22 {ls : ab_L} {st : List Value} {w : ab_W} (h : ab_isR (ls 1) = true) : ab_Run ab_mt 75 22 ls st w = ab_Run ab_mt 75 23 ls (ab_gv (ls 1) :: st) w := E_loadr (n := 1) rfl h
theorem e_75_23 {ls : ab_L} {st : List Value} {w : ab_W} {v0 v1 : Value} (h1 : ab_recv ab_mt 65 [v0, v1] w.2 = true) (h8 : ab_w8 st = true) : ab_Run ab_mt 75 23 ls (v1 :: v0 :: st) w = ab_aft 65 75 23 ls st (ab_Cl 65 [v0, v1] w) := E_call2 rfl h1 h8
theorem e_75_26 {ls : ab_L} {st : List Value} {w : ab_W} {x y : Int32} : ab_Run ab_mt 75 26 ls (.int y :: .int x :: st) w = if y ≤ x then ab_Run ab_mt 75 64 ls st w else ab_Run ab_mt 75 29 ls st w := E_ic_ge rfl
theorem e_75_29 {ls : ab_L} {st : List Value} {w : ab_W} : ab_Run ab_mt 75 29 ls st w = ab_Run ab_mt 75 30 ls (.int (nI 0) :: st) w := E_push (n := 1) rfl
theorem e_75_30 {ls : ab_L} {st : List Value} {w : ab_W} {x : Int32} : ab_Run ab_mt 75 30 ls (.int x :: st) w = ab_Run ab_mt 75 32 (ab_l1 ls 5 (.int x)) st w := E_stori (n := 2) rfl
theorem e_75_32 {ls : ab_L} {st : List Value} {w : ab_W} (h : ab_isI (ls 5) = true) : ab_Run ab_mt 75 32 ls st w = ab_Run ab_mt 75 34 ls (ab_gv (ls 5) :: st) w := E_loadi (n := 2) rfl h
theorem e_75_34 {ls : ab_L} {st : List Value} {w : ab_W} : ab_Run ab_mt 75 34 ls st w = ab_Run ab_mt 75 35 ls (.int (nI 3) :: st) w := E_push (n := 1) rfl
theorem e_75_35 {ls : ab_L} {st : List Value} {w : ab_W} {x y : Int32} : ab_Run ab_mt 75 35 ls (.int y :: .int x :: st) w = if y ≤ x then ab_Run ab_mt 75 61 ls st w else ab_Run ab_mt 75 38 ls st w := E_ic_ge rfl
theorem e_75_38 {ls : ab_L} {st : List Value} {w : ab_W} (h : ab_isR (ls 2) = true) : ab_Run ab_mt 75 38 ls st w = ab_Run ab_mt 75 39 ls (ab_gv (ls 2) :: st) w := E_loadr (n := 1) rfl h
theorem e_75_39 {ls : ab_L} {st : List Value} {w : ab_W} : ab_Run ab_mt 75 39 ls st w = ab_Run ab_mt 75 40 ls (.int (nI 3) :: st) w := E_push (n := 1) rfl
theorem e_75_40 {ls : ab_L} {st : List Value} {w : ab_W} (h : ab_isI (ls 3) = true) : ab_Run ab_mt 75 40 ls st w = ab_Run ab_mt 75 41 ls (ab_gv (ls 3) :: st) w := E_loadi (n := 1) rfl h
theorem e_75_41 {ls : ab_L} {st : List Value} {w : ab_W} {x y : Int32} : ab_Run ab_mt 75 41 ls (.int y :: .int x :: st) w = ab_Run ab_mt 75 42 ls (.int (x * y) :: st) w := E_ib (f := fun x y => x * y) rfl
theorem e_75_42 {ls : ab_L} {st : List Value} {w : ab_W} (h : ab_isI (ls 5) = true) : ab_Run ab_mt 75 42 ls st w = ab_Run ab_mt 75 44 ls (ab_gv (ls 5) :: st) w := E_loadi (n := 2) rfl h
theorem e_75_44 {ls : ab_L} {st : List Value} {w : ab_W} {x y : Int32} : ab_Run ab_mt 75 44 ls (.int y :: .int x :: st) w = ab_Run ab_mt 75 45 ls (.int (x + y) :: st) w := E_ib (f := fun x y => x + y) rfl
theorem e_75_45 {ls : ab_L} {st : List Value} {w : ab_W} (h : ab_isR (ls 2) = true) : ab_Run ab_mt 75 45 ls st w = ab_Run ab_mt 75 46 ls (ab_gv (ls 2) :: st) w := E_loadr (n := 1) rfl h
theorem e_75_46 {ls : ab_L} {st : List Value} {w : ab_W} : ab_Run ab_mt 75 46 ls st w = ab_Run ab_mt 75 47 ls (.int (nI 3) :: st) w := E_push (n := 1) rfl
theorem e_75_47 {ls : ab_L} {st : List Value} {w : ab_W} (h : ab_isI (ls 4) = true) : ab_Run ab_mt 75 47 ls st w = ab_Run ab_mt 75 49 ls (ab_gv (ls 4) :: st) w := E_loadi (n := 2) rfl h
theorem e_75_49 {ls : ab_L} {st : List Value} {w : ab_W} {x y : Int32} : ab_Run ab_mt 75 49 ls (.int y :: .int x :: st) w = ab_Run ab_mt 75 50 ls (.int (x * y) :: st) w := E_ib (f := fun x y => x * y) rfl
theorem e_75_50 {ls : ab_L} {st : List Value} {w : ab_W} (h : ab_isI (ls 5) = true) : ab_Run ab_mt 75 50 ls st w = ab_Run ab_mt 75 52 ls (ab_gv (ls 5) :: st) w := E_loadi (n := 2) rfl h
theorem e_75_52 {ls : ab_L} {st : List Value} {w : ab_W} {x y : Int32} : ab_Run ab_mt 75 52 ls (.int y :: .int x :: st) w = ab_Run ab_mt 75 53 ls (.int (x + y) :: st) w := E_ib (f := fun x y => x + y) rfl
theorem e_75_53 {ls : ab_L} {st : List Value} {w : ab_W} {a : Nat} {i : Int32} (h : ab_inI i (w.2 a) = true) : ab_Run ab_mt 75 53 ls (.int i :: .ref a :: st) w = ab_Run ab_mt 75 54 ls (.int (ab_aI i.toNatClampNeg (w.2 a)) :: st) w := E_iald rfl h
theorem e_75_54 {ls : ab_L} {st : List Value} {w : ab_W} {a : Nat} {i x : Int32} (h : ab_inW i (w.2 a) = true) : ab_Run ab_mt 75 54 ls (.int x :: .int i :: .ref a :: st) w = ab_Run ab_mt 75 55 ls st (w.1, ab_up w.2 a (ab_sI i.toNatClampNeg x (w.2 a))) := E_iast rfl h
theorem e_75_55 {ls : ab_L} {st : List Value} {w : ab_W} (h : ab_isI (ls 5) = true) : ab_Run ab_mt 75 55 ls st w = ab_Run ab_mt 75 58 (ab_l1 ls 5 (.int (ab_gi (ls 5) + (nI 1)))) st w := E_iinc rfl h
theorem e_75_58 {ls : ab_L} {st : List Value} {w : ab_W} : ab_Run ab_mt 75 58 ls st w = ab_Run ab_mt 75 32 ls st w := E_goto rfl
theorem e_75_61 {ls : ab_L} {st : List Value} {w : ab_W} (h : ab_isI (ls 3) = true) : ab_Run ab_mt 75 61 ls st w = ab_Run ab_mt 75 64 (ab_l1 ls 3 (.int (ab_gi (ls 3) + (nI 1)))) st w := E_iinc rfl h
theorem e_75_64 {ls : ab_L} {st : List Value} {w : ab_W} (h : ab_isI (ls 4) = true) : ab_Run ab_mt 75 64 ls st w = ab_Run ab_mt 75 67 (ab_l1 ls 4 (.int (ab_gi (ls 4) + (nI 1)))) st w := E_iinc rfl h
theorem e_75_67 {ls : ab_L} {st : List Value} {w : ab_W} : ab_Run ab_mt 75 67 ls st w = ab_Run ab_mt 75 5 ls st w := E_goto rfl
theorem e_75_70 {ls : ab_L} {st : List Value} {w : ab_W} (h : ab_isR (ls 0) = true) : ab_Run ab_mt 75 70 ls st w = ab_Run ab_mt 75 71 ls (ab_gv (ls 0) :: st) w := E_loadr (n := 1) rfl h
theorem e_75_71 {ls : ab_L} {st : List Value} {w : ab_W} : ab_Run ab_mt 75 71 ls st w = ab_Run ab_mt 75 72 ls (.int (nI 2) :: st) w := E_push (n := 1) rfl
theorem e_75_72 {ls : ab_L} {st : List Value} {w : ab_W} (h : ab_isI (ls 3) = true) : ab_Run ab_mt 75 72 ls st w = ab_Run ab_mt 75 73 ls (ab_gv (ls 3) :: st) w := E_loadi (n := 1) rfl h
theorem e_75_73 {ls : ab_L} {st : List Value} {w : ab_W} {a : Nat} {i x : Int32} (h : ab_inW i (w.2 a) = true) : ab_Run ab_mt 75 73 ls (.int x :: .int i :: .ref a :: st) w = ab_Run ab_mt 75 74 ls st (w.1, ab_up w.2 a (ab_sI i.toNatClampNeg x (w.2 a))) := E_iast rfl h
theorem e_75_74 {ls : ab_L} {w : ab_W} : ab_Run ab_mt 75 74 ls [] w = some (.inl none, w) := E_ret0 rfl
theorem rv_75 {σ : ab_S} {x0 : Nat} {x1 : Nat} {x2 : Nat} : ab_recv ab_mt 75 [.ref x0, .ref x1, .ref x2] σ = true := rfl
theorem e_76_0 {ls : ab_L} {st : List Value} {w : ab_W} : ab_Run ab_mt 76 0 ls st w = ab_Run ab_mt 76 1 ls (.int (nI 0) :: st) w := E_push (n := 1) rfl
theorem e_76_1 {ls : ab_L} {st : List Value} {w : ab_W} {x : Int32} : ab_Run ab_mt 76 1 ls (.int x :: st) w = ab_Run ab_mt 76 2 (ab_l1 ls 3 (.int x)) st w := E_stori (n := 1) rfl
theorem e_76_2 {ls : ab_L} {st : List Value} {w : ab_W} (h : ab_isI (ls 3) = true) : ab_Run ab_mt 76 2 ls st w = ab_Run ab_mt 76 3 ls (ab_gv (ls 3) :: st) w := E_loadi (n := 1) rfl h
theorem e_76_3 {ls : ab_L} {st : List Value} {w : ab_W} (h : ab_isR (ls 1) = true) : ab_Run ab_mt 76 3 ls st w = ab_Run ab_mt 76 4 ls (ab_gv (ls 1) :: st) w := E_loadr (n := 1) rfl h
theorem e_76_4 {ls : ab_L} {st : List Value} {w : ab_W} : ab_Run ab_mt 76 4 ls st w = ab_Run ab_mt 76 5 ls (.int (nI 1) :: st) w := E_push (n := 1) rfl
theorem e_76_5 {ls : ab_L} {st : List Value} {w : ab_W} {a : Nat} {i : Int32} (h : ab_inI i (w.2 a) = true) : ab_Run ab_mt 76 5 ls (.int i :: .ref a :: st) w = ab_Run ab_mt 76 6 ls (.int (ab_aI i.toNatClampNeg (w.2 a)) :: st) w := E_iald rfl h
theorem e_76_6 {ls : ab_L} {st : List Value} {w : ab_W} {x y : Int32} : ab_Run ab_mt 76 6 ls (.int y :: .int x :: st) w = if y ≤ x then ab_Run ab_mt 76 26 ls st w else ab_Run ab_mt 76 9 ls st w := E_ic_ge rfl
theorem e_76_9 {ls : ab_L} {st : List Value} {w : ab_W} (h : ab_isR (ls 2) = true) : ab_Run ab_mt 76 9 ls st w = ab_Run ab_mt 76 10 ls (ab_gv (ls 2) :: st) w := E_loadr (n := 1) rfl h
theorem e_76_10 {ls : ab_L} {st : List Value} {w : ab_W} : ab_Run ab_mt 76 10 ls st w = ab_Run ab_mt 76 11 ls (.int (nI 3) :: st) w := E_push (n := 1) rfl
theorem e_76_11 {ls : ab_L} {st : List Value} {w : ab_W} (h : ab_isI (ls 3) = true) : ab_Run ab_mt 76 11 ls st w = ab_Run ab_mt 76 12 ls (ab_gv (ls 3) :: st) w := E_loadi (n := 1) rfl h
theorem e_76_12 {ls : ab_L} {st : List Value} {w : ab_W} {x y : Int32} : ab_Run ab_mt 76 12 ls (.int y :: .int x :: st) w = ab_Run ab_mt 76 13 ls (.int (x * y) :: st) w := E_ib (f := fun x y => x * y) rfl
theorem e_76_13 {ls : ab_L} {st : List Value} {w : ab_W} {a : Nat} {i : Int32} (h : ab_inI i (w.2 a) = true) : ab_Run ab_mt 76 13 ls (.int i :: .ref a :: st) w = ab_Run ab_mt 76 14 ls (.int (ab_aI i.toNatClampNeg (w.2 a)) :: st) w := E_iald rfl h
theorem e_76_14 {ls : ab_L} {st : List Value} {w : ab_W} (h : ab_isI (ls 0) = true) : ab_Run ab_mt 76 14 ls st w = ab_Run ab_mt 76 15 ls (ab_gv (ls 0) :: st) w := E_loadi (n := 1) rfl h
theorem e_76_15 {ls : ab_L} {st : List Value} {w : ab_W} {x y : Int32} : ab_Run ab_mt 76 15 ls (.int y :: .int x :: st) w = if x = y then ab_Run ab_mt 76 18 ls st w else ab_Run ab_mt 76 20 ls st w := E_ic_ne rfl
theorem e_76_18 {ls : ab_L} {st : List Value} {w : ab_W} (h : ab_isI (ls 3) = true) : ab_Run ab_mt 76 18 ls st w = ab_Run ab_mt 76 19 ls (ab_gv (ls 3) :: st) w := E_loadi (n := 1) rfl h
theorem e_76_19 {ls : ab_L} {w : ab_W} {x : Int32} : ab_Run ab_mt 76 19 ls [.int x] w = some (.inl (some (.int x)), w) := E_reti rfl
theorem e_76_20 {ls : ab_L} {st : List Value} {w : ab_W} (h : ab_isI (ls 3) = true) : ab_Run ab_mt 76 20 ls st w = ab_Run ab_mt 76 23 (ab_l1 ls 3 (.int (ab_gi (ls 3) + (nI 1)))) st w := E_iinc rfl h
theorem e_76_23 {ls : ab_L} {st : List Value} {w : ab_W} : ab_Run ab_mt 76 23 ls st w = ab_Run ab_mt 76 2 ls st w := E_goto rfl
theorem e_76_26 {ls : ab_L} {st : List Value} {w : ab_W} : ab_Run ab_mt 76 26 ls st w = ab_Run ab_mt 76 27 ls (.int (-1) :: st) w := E_push (n := 1) rfl
theorem e_76_27 {ls : ab_L} {w : ab_W} {x : Int32} : ab_Run ab_mt 76 27 ls [.int x] w = some (.inl (some (.int x)), w) := E_reti rfl
theorem rv_76 {σ : ab_S} {x0 : Int32} {x1 : Nat} {x2 : Nat} : ab_recv ab_mt 76 [.int x0, .ref x1, .ref x2] σ = true := rfl
theorem e_77_0 {ls : ab_L} {st : List Value} {w : ab_W} : ab_Run ab_mt 77 0 ls st w = ab_Run ab_mt 77 1 ls (.int (nI 0) :: st) w := E_push (n := 1) rfl
theorem e_77_1 {ls : ab_L} {st : List Value} {w : ab_W} {x : Int32} : ab_Run ab_mt 77 1 ls (.int x :: st) w = ab_Run ab_mt 77 2 (ab_l1 ls 3 (.int x)) st w := E_stori (n := 1) rfl
theorem e_77_2 {ls : ab_L} {st : List Value} {w : ab_W} (h : ab_isI (ls 3) = true) : ab_Run ab_mt 77 2 ls st w = ab_Run ab_mt 77 3 ls (ab_gv (ls 3) :: st) w := E_loadi (n := 1) rfl h
theorem e_77_3 {ls : ab_L} {st : List Value} {w : ab_W} (h : ab_isR (ls 1) = true) : ab_Run ab_mt 77 3 ls st w = ab_Run ab_mt 77 4 ls (ab_gv (ls 1) :: st) w := E_loadr (n := 1) rfl h
theorem e_77_4 {ls : ab_L} {st : List Value} {w : ab_W} : ab_Run ab_mt 77 4 ls st w = ab_Run ab_mt 77 5 ls (.int (nI 1) :: st) w := E_push (n := 1) rfl
theorem e_77_5 {ls : ab_L} {st : List Value} {w : ab_W} {a : Nat} {i : Int32} (h : ab_inI i (w.2 a) = true) : ab_Run ab_mt 77 5 ls (.int i :: .ref a :: st) w = ab_Run ab_mt 77 6 ls (.int (ab_aI i.toNatClampNeg (w.2 a)) :: st) w := E_iald rfl h
theorem e_77_6 {ls : ab_L} {st : List Value} {w : ab_W} {x y : Int32} : ab_Run ab_mt 77 6 ls (.int y :: .int x :: st) w = if y ≤ x then ab_Run ab_mt 77 60 ls st w else ab_Run ab_mt 77 9 ls st w := E_ic_ge rfl
theorem e_77_9 {ls : ab_L} {st : List Value} {w : ab_W} : ab_Run ab_mt 77 9 ls st w = ab_Run ab_mt 77 10 ls (.int (nI 0) :: st) w := E_push (n := 1) rfl
theorem e_77_10 {ls : ab_L} {st : List Value} {w : ab_W} {x : Int32} : ab_Run ab_mt 77 10 ls (.int x :: st) w = ab_Run ab_mt 77 12 (ab_l1 ls 4 (.int x)) st w := E_stori (n := 2) rfl
theorem e_77_12 {ls : ab_L} {st : List Value} {w : ab_W} : ab_Run ab_mt 77 12 ls st w = ab_Run ab_mt 77 13 ls (.int (nI 0) :: st) w := E_push (n := 1) rfl
theorem e_77_13 {ls : ab_L} {st : List Value} {w : ab_W} {x : Int32} : ab_Run ab_mt 77 13 ls (.int x :: st) w = ab_Run ab_mt 77 15 (ab_l1 ls 5 (.int x)) st w := E_stori (n := 2) rfl
theorem e_77_15 {ls : ab_L} {st : List Value} {w : ab_W} (h : ab_isI (ls 5) = true) : ab_Run ab_mt 77 15 ls st w = ab_Run ab_mt 77 17 ls (ab_gv (ls 5) :: st) w := E_loadi (n := 2) rfl h
theorem e_77_17 {ls : ab_L} {st : List Value} {w : ab_W} (h : ab_isR (ls 1) = true) : ab_Run ab_mt 77 17 ls st w = ab_Run ab_mt 77 18 ls (ab_gv (ls 1) :: st) w := E_loadr (n := 1) rfl h
theorem e_77_18 {ls : ab_L} {st : List Value} {w : ab_W} : ab_Run ab_mt 77 18 ls st w = ab_Run ab_mt 77 19 ls (.int (nI 1) :: st) w := E_push (n := 1) rfl
theorem e_77_19 {ls : ab_L} {st : List Value} {w : ab_W} {a : Nat} {i : Int32} (h : ab_inI i (w.2 a) = true) : ab_Run ab_mt 77 19 ls (.int i :: .ref a :: st) w = ab_Run ab_mt 77 20 ls (.int (ab_aI i.toNatClampNeg (w.2 a)) :: st) w := E_iald rfl h
theorem e_77_20 {ls : ab_L} {st : List Value} {w : ab_W} {x y : Int32} : ab_Run ab_mt 77 20 ls (.int y :: .int x :: st) w = if y ≤ x then ab_Run ab_mt 77 46 ls st w else ab_Run ab_mt 77 23 ls st w := E_ic_ge rfl
theorem e_77_23 {ls : ab_L} {st : List Value} {w : ab_W} (h : ab_isR (ls 2) = true) : ab_Run ab_mt 77 23 ls st w = ab_Run ab_mt 77 24 ls (ab_gv (ls 2) :: st) w := E_loadr (n := 1) rfl h
theorem e_77_24 {ls : ab_L} {st : List Value} {w : ab_W} : ab_Run ab_mt 77 24 ls st w = ab_Run ab_mt 77 25 ls (.int (nI 3) :: st) w := E_push (n := 1) rfl
theorem e_77_25 {ls : ab_L} {st : List Value} {w : ab_W} (h : ab_isI (ls 5) = true) : ab_Run ab_mt 77 25 ls st w = ab_Run ab_mt 77 27 ls (ab_gv (ls 5) :: st) w := E_loadi (n := 2) rfl h
theorem e_77_27 {ls : ab_L} {st : List Value} {w : ab_W} {x y : Int32} : ab_Run ab_mt 77 27 ls (.int y :: .int x :: st) w = ab_Run ab_mt 77 28 ls (.int (x * y) :: st) w := E_ib (f := fun x y => x * y) rfl
theorem e_77_28 {ls : ab_L} {st : List Value} {w : ab_W} {a : Nat} {i : Int32} (h : ab_inI i (w.2 a) = true) : ab_Run ab_mt 77 28 ls (.int i :: .ref a :: st) w = ab_Run ab_mt 77 29 ls (.int (ab_aI i.toNatClampNeg (w.2 a)) :: st) w := E_iald rfl h
theorem e_77_29 {ls : ab_L} {st : List Value} {w : ab_W} (h : ab_isR (ls 2) = true) : ab_Run ab_mt 77 29 ls st w = ab_Run ab_mt 77 30 ls (ab_gv (ls 2) :: st) w := E_loadr (n := 1) rfl h
theorem e_77_30 {ls : ab_L} {st : List Value} {w : ab_W} : ab_Run ab_mt 77 30 ls st w = ab_Run ab_mt 77 31 ls (.int (nI 3) :: st) w := E_push (n := 1) rfl
theorem e_77_31 {ls : ab_L} {st : List Value} {w : ab_W} (h : ab_isI (ls 3) = true) : ab_Run ab_mt 77 31 ls st w = ab_Run ab_mt 77 32 ls (ab_gv (ls 3) :: st) w := E_loadi (n := 1) rfl h
theorem e_77_32 {ls : ab_L} {st : List Value} {w : ab_W} {x y : Int32} : ab_Run ab_mt 77 32 ls (.int y :: .int x :: st) w = ab_Run ab_mt 77 33 ls (.int (x * y) :: st) w := E_ib (f := fun x y => x * y) rfl
theorem e_77_33 {ls : ab_L} {st : List Value} {w : ab_W} {a : Nat} {i : Int32} (h : ab_inI i (w.2 a) = true) : ab_Run ab_mt 77 33 ls (.int i :: .ref a :: st) w = ab_Run ab_mt 77 34 ls (.int (ab_aI i.toNatClampNeg (w.2 a)) :: st) w := E_iald rfl h
theorem e_77_34 {ls : ab_L} {st : List Value} {w : ab_W} {x y : Int32} : ab_Run ab_mt 77 34 ls (.int y :: .int x :: st) w = if y ≤ x then ab_Run ab_mt 77 40 ls st w else ab_Run ab_mt 77 37 ls st w := E_ic_ge rfl
theorem e_77_37 {ls : ab_L} {st : List Value} {w : ab_W} (h : ab_isI (ls 4) = true) : ab_Run ab_mt 77 37 ls st w = ab_Run ab_mt 77 40 (ab_l1 ls 4 (.int (ab_gi (ls 4) + (nI 1)))) st w := E_iinc rfl h
theorem e_77_40 {ls : ab_L} {st : List Value} {w : ab_W} (h : ab_isI (ls 5) = true) : ab_Run ab_mt 77 40 ls st w = ab_Run ab_mt 77 43 (ab_l1 ls 5 (.int (ab_gi (ls 5) + (nI 1)))) st w := E_iinc rfl h
theorem e_77_43 {ls : ab_L} {st : List Value} {w : ab_W} : ab_Run ab_mt 77 43 ls st w = ab_Run ab_mt 77 15 ls st w := E_goto rfl
theorem e_77_46 {ls : ab_L} {st : List Value} {w : ab_W} (h : ab_isI (ls 4) = true) : ab_Run ab_mt 77 46 ls st w = ab_Run ab_mt 77 48 ls (ab_gv (ls 4) :: st) w := E_loadi (n := 2) rfl h
theorem e_77_48 {ls : ab_L} {st : List Value} {w : ab_W} (h : ab_isI (ls 0) = true) : ab_Run ab_mt 77 48 ls st w = ab_Run ab_mt 77 49 ls (ab_gv (ls 0) :: st) w := E_loadi (n := 1) rfl h
theorem e_77_49 {ls : ab_L} {st : List Value} {w : ab_W} {x y : Int32} : ab_Run ab_mt 77 49 ls (.int y :: .int x :: st) w = if x = y then ab_Run ab_mt 77 52 ls st w else ab_Run ab_mt 77 54 ls st w := E_ic_ne rfl
theorem e_77_52 {ls : ab_L} {st : List Value} {w : ab_W} (h : ab_isI (ls 3) = true) : ab_Run ab_mt 77 52 ls st w = ab_Run ab_mt 77 53 ls (ab_gv (ls 3) :: st) w := E_loadi (n := 1) rfl h
theorem e_77_53 {ls : ab_L} {w : ab_W} {x : Int32} : ab_Run ab_mt 77 53 ls [.int x] w = some (.inl (some (.int x)), w) := E_reti rfl
theorem e_77_54 {ls : ab_L} {st : List Value} {w : ab_W} (h : ab_isI (ls 3) = true) : ab_Run ab_mt 77 54 ls st w = ab_Run ab_mt 77 57 (ab_l1 ls 3 (.int (ab_gi (ls 3) + (nI 1)))) st w := E_iinc rfl h
theorem e_77_57 {ls : ab_L} {st : List Value} {w : ab_W} : ab_Run ab_mt 77 57 ls st w = ab_Run ab_mt 77 2 ls st w := E_goto rfl
theorem e_77_60 {ls : ab_L} {st : List Value} {w : ab_W} : ab_Run ab_mt 77 60 ls st w = ab_Run ab_mt 77 61 ls (.int (-1) :: st) w := E_push (n := 1) rfl
theorem e_77_61 {ls : ab_L} {w : ab_W} {x : Int32} : ab_Run ab_mt 77 61 ls [.int x] w = some (.inl (some (.int x)), w) := E_reti rfl
theorem rv_77 {σ : ab_S} {x0 : Int32} {x1 : Nat} {x2 : Nat} : ab_recv ab_mt 77 [.int x0, .ref x1, .ref x2] σ = true := rfl
theorem e_78_0 {ls : ab_L} {st : List Value} {w : ab_W} (h : ab_isR (ls 3) = true) : ab_Run ab_mt 78 0 ls st w = ab_Run ab_mt 78 1 ls (ab_gv (ls 3) :: st) w := E_loadr (n := 1) rfl h
theorem e_78_1 {ls : ab_L} {st : List Value} {w : ab_W} : ab_Run ab_mt 78 1 ls st w = ab_Run ab_mt 78 2 ls (.int (nI 0) :: st) w := E_push (n := 1) rfl
theorem e_78_2 {ls : ab_L} {st : List Value} {w : ab_W} {a : Nat} {i : Int32} (h : ab_inI i (w.2 a) = true) : ab_Run ab_mt 78 2 ls (.int i :: .ref a :: st) w = ab_Run ab_mt 78 3 ls (.int (ab_aI i.toNatClampNeg (w.2 a)) :: st) w := E_iald rfl h
theorem e_78_3 {ls : ab_L} {st : List Value} {w : ab_W} : ab_Run ab_mt 78 3 ls st w = ab_Run ab_mt 78 5 ls (.int (nI 8) :: st) w := E_push (n := 2) rfl
theorem e_78_5 {ls : ab_L} {st : List Value} {w : ab_W} {x y : Int32} : ab_Run ab_mt 78 5 ls (.int y :: .int x :: st) w = if x = y then ab_Run ab_mt 78 8 ls st w else ab_Run ab_mt 78 10 ls st w := E_ic_ne rfl
theorem e_78_8 {ls : ab_L} {st : List Value} {w : ab_W} : ab_Run ab_mt 78 8 ls st w = ab_Run ab_mt 78 9 ls (.int (nI 1) :: st) w := E_push (n := 1) rfl
theorem e_78_9 {ls : ab_L} {w : ab_W} {x : Int32} (h : ab_fitr 2 (.int x) = true) : ab_Run ab_mt 78 9 ls [.int x] w = some (.inl (some (.int x)), w) := E_retz rfl h
theorem e_78_10 {ls : ab_L} {st : List Value} {w : ab_W} : ab_Run ab_mt 78 10 ls st w = ab_Run ab_mt 78 11 ls (.int (nI 5) :: st) w := E_push (n := 1) rfl
theorem e_78_11 {ls : ab_L} {st : List Value} {w : ab_W} (h : ab_isR (ls 3) = true) : ab_Run ab_mt 78 11 ls st w = ab_Run ab_mt 78 12 ls (ab_gv (ls 3) :: st) w := E_loadr (n := 1) rfl h
theorem e_78_12 {ls : ab_L} {st : List Value} {w : ab_W} : ab_Run ab_mt 78 12 ls st w = ab_Run ab_mt 78 13 ls (.int (nI 0) :: st) w := E_push (n := 1) rfl
theorem e_78_13 {ls : ab_L} {st : List Value} {w : ab_W} {a : Nat} {i : Int32} (h : ab_inI i (w.2 a) = true) : ab_Run ab_mt 78 13 ls (.int i :: .ref a :: st) w = ab_Run ab_mt 78 14 ls (.int (ab_aI i.toNatClampNeg (w.2 a)) :: st) w := E_iald rfl h
theorem e_78_14 {ls : ab_L} {st : List Value} {w : ab_W} {x y : Int32} : ab_Run ab_mt 78 14 ls (.int y :: .int x :: st) w = ab_Run ab_mt 78 15 ls (.int (x * y) :: st) w := E_ib (f := fun x y => x * y) rfl
theorem e_78_15 {ls : ab_L} {st : List Value} {w : ab_W} {x : Int32} : ab_Run ab_mt 78 15 ls (.int x :: st) w = ab_Run ab_mt 78 17 (ab_l1 ls 5 (.int x)) st w := E_stori (n := 2) rfl
theorem e_78_17 {ls : ab_L} {st : List Value} {w : ab_W} (h : ab_isR (ls 4) = true) : ab_Run ab_mt 78 17 ls st w = ab_Run ab_mt 78 19 ls (ab_gv (ls 4) :: st) w := E_loadr (n := 2) rfl h
theorem e_78_19 {ls : ab_L} {st : List Value} {w : ab_W} (h : ab_isI (ls 5) = true) : ab_Run ab_mt 78 19 ls st w = ab_Run ab_mt 78 21 ls (ab_gv (ls 5) :: st) w := E_loadi (n := 2) rfl h
theorem e_78_21 {ls : ab_L} {st : List Value} {w : ab_W} : ab_Run ab_mt 78 21 ls st w = ab_Run ab_mt 78 22 ls (.int (nI 1) :: st) w := E_push (n := 1) rfl
theorem e_78_22 {ls : ab_L} {st : List Value} {w : ab_W} (h : ab_isI (ls 1) = true) : ab_Run ab_mt 78 22 ls st w = ab_Run ab_mt 78 23 ls (ab_gv (ls 1) :: st) w := E_loadi (n := 1) rfl h
theorem e_78_23 {ls : ab_L} {st : List Value} {w : ab_W} (h : ab_isI (ls 1) = true) : ab_Run ab_mt 78 23 ls st w = ab_Run ab_mt 78 24 ls (ab_gv (ls 1) :: st) w := E_loadi (n := 1) rfl h
theorem e_78_24 {ls : ab_L} {st : List Value} {w : ab_W} : ab_Run ab_mt 78 24 ls st w = ab_Run ab_mt 78 26 ls (.int (nI 9) :: st) w := E_push (n := 2) rfl
theorem e_78_26 {ls : ab_L} {st : List Value} {w : ab_W} {x y : Int32} : ab_Run ab_mt 78 26 ls (.int y :: .int x :: st) w = ab_Run ab_mt 78 27 ls (.int (x >>> (y &&& 31)) :: st) w := E_ib (f := fun x y => x >>> (y &&& 31)) rfl
theorem e_78_27 {ls : ab_L} {st : List Value} {w : ab_W} : ab_Run ab_mt 78 27 ls st w = ab_Run ab_mt 78 28 ls (.int (nI 3) :: st) w := E_push (n := 1) rfl
theorem e_78_28 {ls : ab_L} {st : List Value} {w : ab_W} {v0 v1 : Value} (h1 : ab_recv ab_mt 64 [v0, v1] w.2 = true) (h8 : ab_w8 st = true) : ab_Run ab_mt 78 28 ls (v1 :: v0 :: st) w = ab_aft 64 78 28 ls st (ab_Cl 64 [v0, v1] w) := E_call2 rfl h1 h8
theorem e_78_31 {ls : ab_L} {st : List Value} {w : ab_W} {x : Int32} : ab_Run ab_mt 78 31 ls (.int x :: st) w = if x = 0 then ab_Run ab_mt 78 34 ls st w else ab_Run ab_mt 78 39 ls st w := E_if_ne rfl
theorem e_78_34 {ls : ab_L} {st : List Value} {w : ab_W} : ab_Run ab_mt 78 34 ls st w = ab_Run ab_mt 78 36 ls (.int (nI 12) :: st) w := E_push (n := 2) rfl
theorem e_78_36 {ls : ab_L} {st : List Value} {w : ab_W} : ab_Run ab_mt 78 36 ls st w = ab_Run ab_mt 78 40 ls st w := E_goto rfl
theorem e_78_39 {ls : ab_L} {st : List Value} {w : ab_W} : ab_Run ab_mt 78 39 ls st w = ab_Run ab_mt 78 40 ls (.int (nI 5) :: st) w := E_push (n := 1) rfl
theorem e_78_40 {ls : ab_L} {st : List Value} {w : ab_W} {v0 v1 : Value} (h1 : ab_recv ab_mt 64 [v0, v1] w.2 = true) (h8 : ab_w8 st = true) : ab_Run ab_mt 78 40 ls (v1 :: v0 :: st) w = ab_aft 64 78 40 ls st (ab_Cl 64 [v0, v1] w) := E_call2 rfl h1 h8
theorem e_78_43 {ls : ab_L} {st : List Value} {w : ab_W} {x y : Int32} : ab_Run ab_mt 78 43 ls (.int y :: .int x :: st) w = ab_Run ab_mt 78 44 ls (.int (x + y) :: st) w := E_ib (f := fun x y => x + y) rfl
theorem e_78_44 {ls : ab_L} {st : List Value} {w : ab_W} {a : Nat} {i x : Int32} (h : ab_inW i (w.2 a) = true) : ab_Run ab_mt 78 44 ls (.int x :: .int i :: .ref a :: st) w = ab_Run ab_mt 78 45 ls st (w.1, ab_up w.2 a (ab_sI i.toNatClampNeg x (w.2 a))) := E_iast rfl h
theorem e_78_45 {ls : ab_L} {st : List Value} {w : ab_W} (h : ab_isR (ls 4) = true) : ab_Run ab_mt 78 45 ls st w = ab_Run ab_mt 78 47 ls (ab_gv (ls 4) :: st) w := E_loadr (n := 2) rfl h
theorem e_78_47 {ls : ab_L} {st : List Value} {w : ab_W} (h : ab_isI (ls 5) = true) : ab_Run ab_mt 78 47 ls st w = ab_Run ab_mt 78 49 ls (ab_gv (ls 5) :: st) w := E_loadi (n := 2) rfl h
theorem e_78_49 {ls : ab_L} {st : List Value} {w : ab_W} : ab_Run ab_mt 78 49 ls st w = ab_Run ab_mt 78 50 ls (.int (nI 1) :: st) w := E_push (n := 1) rfl
theorem e_78_50 {ls : ab_L} {st : List Value} {w : ab_W} {x y : Int32} : ab_Run ab_mt 78 50 ls (.int y :: .int x :: st) w = ab_Run ab_mt 78 51 ls (.int (x + y) :: st) w := E_ib (f := fun x y => x + y) rfl
theorem e_78_51 {ls : ab_L} {st : List Value} {w : ab_W} : ab_Run ab_mt 78 51 ls st w = ab_Run ab_mt 78 52 ls (.int (nI 1) :: st) w := E_push (n := 1) rfl
theorem e_78_52 {ls : ab_L} {st : List Value} {w : ab_W} (h : ab_isI (ls 2) = true) : ab_Run ab_mt 78 52 ls st w = ab_Run ab_mt 78 53 ls (ab_gv (ls 2) :: st) w := E_loadi (n := 1) rfl h
theorem e_78_53 {ls : ab_L} {st : List Value} {w : ab_W} : ab_Run ab_mt 78 53 ls st w = ab_Run ab_mt 78 55 ls (.int (nI 8) :: st) w := E_push (n := 2) rfl
theorem e_78_55 {ls : ab_L} {st : List Value} {w : ab_W} {v0 v1 : Value} (h1 : ab_recv ab_mt 64 [v0, v1] w.2 = true) (h8 : ab_w8 st = true) : ab_Run ab_mt 78 55 ls (v1 :: v0 :: st) w = ab_aft 64 78 55 ls st (ab_Cl 64 [v0, v1] w) := E_call2 rfl h1 h8
theorem e_78_58 {ls : ab_L} {st : List Value} {w : ab_W} {x y : Int32} : ab_Run ab_mt 78 58 ls (.int y :: .int x :: st) w = ab_Run ab_mt 78 59 ls (.int (x + y) :: st) w := E_ib (f := fun x y => x + y) rfl
theorem e_78_59 {ls : ab_L} {st : List Value} {w : ab_W} {a : Nat} {i x : Int32} (h : ab_inW i (w.2 a) = true) : ab_Run ab_mt 78 59 ls (.int x :: .int i :: .ref a :: st) w = ab_Run ab_mt 78 60 ls st (w.1, ab_up w.2 a (ab_sI i.toNatClampNeg x (w.2 a))) := E_iast rfl h
theorem e_78_60 {ls : ab_L} {st : List Value} {w : ab_W} (h : ab_isR (ls 4) = true) : ab_Run ab_mt 78 60 ls st w = ab_Run ab_mt 78 62 ls (ab_gv (ls 4) :: st) w := E_loadr (n := 2) rfl h
theorem e_78_62 {ls : ab_L} {st : List Value} {w : ab_W} (h : ab_isI (ls 5) = true) : ab_Run ab_mt 78 62 ls st w = ab_Run ab_mt 78 64 ls (ab_gv (ls 5) :: st) w := E_loadi (n := 2) rfl h
theorem e_78_64 {ls : ab_L} {st : List Value} {w : ab_W} : ab_Run ab_mt 78 64 ls st w = ab_Run ab_mt 78 65 ls (.int (nI 2) :: st) w := E_push (n := 1) rfl
theorem e_78_65 {ls : ab_L} {st : List Value} {w : ab_W} {x y : Int32} : ab_Run ab_mt 78 65 ls (.int y :: .int x :: st) w = ab_Run ab_mt 78 66 ls (.int (x + y) :: st) w := E_ib (f := fun x y => x + y) rfl
theorem e_78_66 {ls : ab_L} {st : List Value} {w : ab_W} : ab_Run ab_mt 78 66 ls st w = ab_Run ab_mt 78 67 ls (.int (nI 0) :: st) w := E_push (n := 1) rfl
theorem e_78_67 {ls : ab_L} {st : List Value} {w : ab_W} {a : Nat} {i x : Int32} (h : ab_inW i (w.2 a) = true) : ab_Run ab_mt 78 67 ls (.int x :: .int i :: .ref a :: st) w = ab_Run ab_mt 78 68 ls st (w.1, ab_up w.2 a (ab_sI i.toNatClampNeg x (w.2 a))) := E_iast rfl h
theorem e_78_68 {ls : ab_L} {st : List Value} {w : ab_W} (h : ab_isR (ls 4) = true) : ab_Run ab_mt 78 68 ls st w = ab_Run ab_mt 78 70 ls (ab_gv (ls 4) :: st) w := E_loadr (n := 2) rfl h
theorem e_78_70 {ls : ab_L} {st : List Value} {w : ab_W} (h : ab_isI (ls 5) = true) : ab_Run ab_mt 78 70 ls st w = ab_Run ab_mt 78 72 ls (ab_gv (ls 5) :: st) w := E_loadi (n := 2) rfl h
theorem e_78_72 {ls : ab_L} {st : List Value} {w : ab_W} : ab_Run ab_mt 78 72 ls st w = ab_Run ab_mt 78 73 ls (.int (nI 3) :: st) w := E_push (n := 1) rfl
theorem e_78_73 {ls : ab_L} {st : List Value} {w : ab_W} {x y : Int32} : ab_Run ab_mt 78 73 ls (.int y :: .int x :: st) w = ab_Run ab_mt 78 74 ls (.int (x + y) :: st) w := E_ib (f := fun x y => x + y) rfl
theorem e_78_74 {ls : ab_L} {st : List Value} {w : ab_W} : ab_Run ab_mt 78 74 ls st w = ab_Run ab_mt 78 75 ls (.int (nI 0) :: st) w := E_push (n := 1) rfl
theorem e_78_75 {ls : ab_L} {st : List Value} {w : ab_W} {a : Nat} {i x : Int32} (h : ab_inW i (w.2 a) = true) : ab_Run ab_mt 78 75 ls (.int x :: .int i :: .ref a :: st) w = ab_Run ab_mt 78 76 ls st (w.1, ab_up w.2 a (ab_sI i.toNatClampNeg x (w.2 a))) := E_iast rfl h
theorem e_78_76 {ls : ab_L} {st : List Value} {w : ab_W} (h : ab_isR (ls 4) = true) : ab_Run ab_mt 78 76 ls st w = ab_Run ab_mt 78 78 ls (ab_gv (ls 4) :: st) w := E_loadr (n := 2) rfl h
theorem e_78_78 {ls : ab_L} {st : List Value} {w : ab_W} (h : ab_isI (ls 5) = true) : ab_Run ab_mt 78 78 ls st w = ab_Run ab_mt 78 80 ls (ab_gv (ls 5) :: st) w := E_loadi (n := 2) rfl h
theorem e_78_80 {ls : ab_L} {st : List Value} {w : ab_W} : ab_Run ab_mt 78 80 ls st w = ab_Run ab_mt 78 81 ls (.int (nI 4) :: st) w := E_push (n := 1) rfl
theorem e_78_81 {ls : ab_L} {st : List Value} {w : ab_W} {x y : Int32} : ab_Run ab_mt 78 81 ls (.int y :: .int x :: st) w = ab_Run ab_mt 78 82 ls (.int (x + y) :: st) w := E_ib (f := fun x y => x + y) rfl
theorem e_78_82 {ls : ab_L} {st : List Value} {w : ab_W} : ab_Run ab_mt 78 82 ls st w = ab_Run ab_mt 78 83 ls (.int (nI 1) :: st) w := E_push (n := 1) rfl
theorem e_78_83 {ls : ab_L} {st : List Value} {w : ab_W} {a : Nat} {i x : Int32} (h : ab_inW i (w.2 a) = true) : ab_Run ab_mt 78 83 ls (.int x :: .int i :: .ref a :: st) w = ab_Run ab_mt 78 84 ls st (w.1, ab_up w.2 a (ab_sI i.toNatClampNeg x (w.2 a))) := E_iast rfl h
theorem e_78_84 {ls : ab_L} {st : List Value} {w : ab_W} (h : ab_isR (ls 3) = true) : ab_Run ab_mt 78 84 ls st w = ab_Run ab_mt 78 85 ls (ab_gv (ls 3) :: st) w := E_loadr (n := 1) rfl h
theorem e_78_85 {ls : ab_L} {st : List Value} {w : ab_W} : ab_Run ab_mt 78 85 ls st w = ab_Run ab_mt 78 86 ls (.int (nI 0) :: st) w := E_push (n := 1) rfl
theorem e_78_86 {ls : ab_L} {st : List Value} {w : ab_W} {x : Nat} {y : Int32} : ab_Run ab_mt 78 86 ls (.int y :: .ref x :: st) w = ab_Run ab_mt 78 87 ls (.int y :: .ref x :: .int y :: .ref x :: st) w := E_dup2 rfl
theorem e_78_87 {ls : ab_L} {st : List Value} {w : ab_W} {a : Nat} {i : Int32} (h : ab_inI i (w.2 a) = true) : ab_Run ab_mt 78 87 ls (.int i :: .ref a :: st) w = ab_Run ab_mt 78 88 ls (.int (ab_aI i.toNatClampNeg (w.2 a)) :: st) w := E_iald rfl h
theorem e_78_88 {ls : ab_L} {st : List Value} {w : ab_W} : ab_Run ab_mt 78 88 ls st w = ab_Run ab_mt 78 89 ls (.int (nI 1) :: st) w := E_push (n := 1) rfl
theorem e_78_89 {ls : ab_L} {st : List Value} {w : ab_W} {x y : Int32} : ab_Run ab_mt 78 89 ls (.int y :: .int x :: st) w = ab_Run ab_mt 78 90 ls (.int (x + y) :: st) w := E_ib (f := fun x y => x + y) rfl
theorem e_78_90 {ls : ab_L} {st : List Value} {w : ab_W} {a : Nat} {i x : Int32} (h : ab_inW i (w.2 a) = true) : ab_Run ab_mt 78 90 ls (.int x :: .int i :: .ref a :: st) w = ab_Run ab_mt 78 91 ls st (w.1, ab_up w.2 a (ab_sI i.toNatClampNeg x (w.2 a))) := E_iast rfl h
theorem e_78_91 {ls : ab_L} {st : List Value} {w : ab_W} (h : ab_isR (ls 0) = true) : ab_Run ab_mt 78 91 ls st w = ab_Run ab_mt 78 92 ls (ab_gv (ls 0) :: st) w := E_loadr (n := 1) rfl h
theorem e_78_92 {ls : ab_L} {st : List Value} {w : ab_W} (h : ab_isR (ls 4) = true) : ab_Run ab_mt 78 92 ls st w = ab_Run ab_mt 78 94 ls (ab_gv (ls 4) :: st) w := E_loadr (n := 2) rfl h
theorem e_78_94 {ls : ab_L} {st : List Value} {w : ab_W} (h : ab_isI (ls 5) = true) : ab_Run ab_mt 78 94 ls st w = ab_Run ab_mt 78 96 ls (ab_gv (ls 5) :: st) w := E_loadi (n := 2) rfl h
theorem e_78_96 {ls : ab_L} {st : List Value} {w : ab_W} {a : Nat} {i : Int32} (h : ab_inI i (w.2 a) = true) : ab_Run ab_mt 78 96 ls (.int i :: .ref a :: st) w = ab_Run ab_mt 78 97 ls (.int (ab_aI i.toNatClampNeg (w.2 a)) :: st) w := E_iald rfl h
theorem e_78_97 {ls : ab_L} {st : List Value} {w : ab_W} (h : ab_isR (ls 4) = true) : ab_Run ab_mt 78 97 ls st w = ab_Run ab_mt 78 99 ls (ab_gv (ls 4) :: st) w := E_loadr (n := 2) rfl h
theorem e_78_99 {ls : ab_L} {st : List Value} {w : ab_W} (h : ab_isI (ls 5) = true) : ab_Run ab_mt 78 99 ls st w = ab_Run ab_mt 78 101 ls (ab_gv (ls 5) :: st) w := E_loadi (n := 2) rfl h
theorem e_78_101 {ls : ab_L} {st : List Value} {w : ab_W} : ab_Run ab_mt 78 101 ls st w = ab_Run ab_mt 78 102 ls (.int (nI 1) :: st) w := E_push (n := 1) rfl
theorem e_78_102 {ls : ab_L} {st : List Value} {w : ab_W} {x y : Int32} : ab_Run ab_mt 78 102 ls (.int y :: .int x :: st) w = ab_Run ab_mt 78 103 ls (.int (x + y) :: st) w := E_ib (f := fun x y => x + y) rfl
theorem e_78_103 {ls : ab_L} {st : List Value} {w : ab_W} {a : Nat} {i : Int32} (h : ab_inI i (w.2 a) = true) : ab_Run ab_mt 78 103 ls (.int i :: .ref a :: st) w = ab_Run ab_mt 78 104 ls (.int (ab_aI i.toNatClampNeg (w.2 a)) :: st) w := E_iald rfl h
theorem e_78_104 {ls : ab_L} {st : List Value} {w : ab_W} {v0 v1 v2 : Value} (h1 : ab_recv ab_mt 1 [v0, v1, v2] w.2 = true) (h8 : ab_w8 st = true) : ab_Run ab_mt 78 104 ls (v2 :: v1 :: v0 :: st) w = ab_aft 1 78 104 ls st (ab_Cl 1 [v0, v1, v2] w) := E_call3 rfl h1 h8
theorem e_78_107 {ls : ab_L} {st : List Value} {w : ab_W} (h : ab_isR (ls 3) = true) : ab_Run ab_mt 78 107 ls st w = ab_Run ab_mt 78 108 ls (ab_gv (ls 3) :: st) w := E_loadr (n := 1) rfl h
theorem e_78_108 {ls : ab_L} {st : List Value} {w : ab_W} : ab_Run ab_mt 78 108 ls st w = ab_Run ab_mt 78 109 ls (.int (nI 0) :: st) w := E_push (n := 1) rfl
theorem e_78_109 {ls : ab_L} {st : List Value} {w : ab_W} {a : Nat} {i : Int32} (h : ab_inI i (w.2 a) = true) : ab_Run ab_mt 78 109 ls (.int i :: .ref a :: st) w = ab_Run ab_mt 78 110 ls (.int (ab_aI i.toNatClampNeg (w.2 a)) :: st) w := E_iald rfl h
theorem e_78_110 {ls : ab_L} {st : List Value} {w : ab_W} : ab_Run ab_mt 78 110 ls st w = ab_Run ab_mt 78 111 ls (.int (nI 1) :: st) w := E_push (n := 1) rfl
theorem e_78_111 {ls : ab_L} {st : List Value} {w : ab_W} {x y : Int32} : ab_Run ab_mt 78 111 ls (.int y :: .int x :: st) w = ab_Run ab_mt 78 112 ls (.int (x - y) :: st) w := E_ib (f := fun x y => x - y) rfl
theorem e_78_112 {ls : ab_L} {st : List Value} {w : ab_W} {x y : Int32} : ab_Run ab_mt 78 112 ls (.int y :: .int x :: st) w = if x = y then ab_Run ab_mt 78 115 ls st w else ab_Run ab_mt 78 119 ls st w := E_ic_ne rfl
theorem e_78_115 {ls : ab_L} {st : List Value} {w : ab_W} : ab_Run ab_mt 78 115 ls st w = ab_Run ab_mt 78 116 ls (.int (nI 1) :: st) w := E_push (n := 1) rfl
theorem e_78_116 {ls : ab_L} {st : List Value} {w : ab_W} : ab_Run ab_mt 78 116 ls st w = ab_Run ab_mt 78 120 ls st w := E_goto rfl
theorem e_78_119 {ls : ab_L} {st : List Value} {w : ab_W} : ab_Run ab_mt 78 119 ls st w = ab_Run ab_mt 78 120 ls (.int (nI 0) :: st) w := E_push (n := 1) rfl
theorem e_78_120 {ls : ab_L} {w : ab_W} {x : Int32} (h : ab_fitr 2 (.int x) = true) : ab_Run ab_mt 78 120 ls [.int x] w = some (.inl (some (.int x)), w) := E_retz rfl h
theorem rv_78 {σ : ab_S} {x0 : Nat} {x1 : Int32} {x2 : Int32} {x3 : Nat} {x4 : Nat} : ab_recv ab_mt 78 [.ref x0, .int x1, .int x2, .ref x3, .ref x4] σ = true := rfl
theorem x_78_104 {ls : ab_L} {rest : List Value} {E : Nat} {w : ab_W} : ab_aft 1 78 104 ls rest (some (.inr E, w)) = some (.inr E, w) := ab_aft_x rfl rfl (by unfold ab_hand; rfl)
theorem e_79_0 {ls : ab_L} {st : List Value} {w : ab_W} (h : ab_isI (ls 1) = true) : ab_Run ab_mt 79 0 ls st w = ab_Run ab_mt 79 1 ls (ab_gv (ls 1) :: st) w := E_loadi (n := 1) rfl h
theorem e_79_1 {ls : ab_L} {st : List Value} {w : ab_W} (h : ab_isR (ls 3) = true) : ab_Run ab_mt 79 1 ls st w = ab_Run ab_mt 79 2 ls (ab_gv (ls 3) :: st) w := E_loadr (n := 1) rfl h
theorem e_79_2 {ls : ab_L} {st : List Value} {w : ab_W} : ab_Run ab_mt 79 2 ls st w = ab_Run ab_mt 79 3 ls (.int (nI 0) :: st) w := E_push (n := 1) rfl
theorem e_79_3 {ls : ab_L} {st : List Value} {w : ab_W} {a : Nat} {i : Int32} (h : ab_inI i (w.2 a) = true) : ab_Run ab_mt 79 3 ls (.int i :: .ref a :: st) w = ab_Run ab_mt 79 4 ls (.int (ab_aI i.toNatClampNeg (w.2 a)) :: st) w := E_iald rfl h
theorem e_79_4 {ls : ab_L} {st : List Value} {w : ab_W} (h : ab_isR (ls 4) = true) : ab_Run ab_mt 79 4 ls st w = ab_Run ab_mt 79 6 ls (ab_gv (ls 4) :: st) w := E_loadr (n := 2) rfl h
theorem e_79_6 {ls : ab_L} {st : List Value} {w : ab_W} {v0 v1 : Value} (h1 : ab_recv ab_mt 65 [v0, v1] w.2 = true) (h8 : ab_w8 st = true) : ab_Run ab_mt 79 6 ls (v1 :: v0 :: st) w = ab_aft 65 79 6 ls st (ab_Cl 65 [v0, v1] w) := E_call2 rfl h1 h8
theorem e_79_9 {ls : ab_L} {st : List Value} {w : ab_W} : ab_Run ab_mt 79 9 ls st w = ab_Run ab_mt 79 10 ls (.int (nI 3) :: st) w := E_push (n := 1) rfl
theorem e_79_10 {ls : ab_L} {st : List Value} {w : ab_W} {x y : Int32} : ab_Run ab_mt 79 10 ls (.int y :: .int x :: st) w = ab_Run ab_mt 79 11 ls (.int (x + y) :: st) w := E_ib (f := fun x y => x + y) rfl
theorem e_79_11 {ls : ab_L} {st : List Value} {w : ab_W} {v0 v1 : Value} (h1 : ab_recv ab_mt 64 [v0, v1] w.2 = true) (h8 : ab_w8 st = true) : ab_Run ab_mt 79 11 ls (v1 :: v0 :: st) w = ab_aft 64 79 11 ls st (ab_Cl 64 [v0, v1] w) := E_call2 rfl h1 h8
theorem e_79_14 {ls : ab_L} {st : List Value} {w : ab_W} {x : Int32} : ab_Run ab_mt 79 14 ls (.int x :: st) w = ab_Run ab_mt 79 16 (ab_l1 ls 6 (.int x)) st w := E_stori (n := 2) rfl
theorem e_79_16 {ls : ab_L} {st : List Value} {w : ab_W} (h : ab_isI (ls 6) = true) : ab_Run ab_mt 79 16 ls st w = ab_Run ab_mt 79 18 ls (ab_gv (ls 6) :: st) w := E_loadi (n := 2) rfl h
theorem e_79_18 {ls : ab_L} {st : List Value} {w : ab_W} (h : ab_isR (ls 3) = true) : ab_Run ab_mt 79 18 ls st w = ab_Run ab_mt 79 19 ls (ab_gv (ls 3) :: st) w := E_loadr (n := 1) rfl h
theorem e_79_19 {ls : ab_L} {st : List Value} {w : ab_W} (h : ab_isR (ls 5) = true) : ab_Run ab_mt 79 19 ls st w = ab_Run ab_mt 79 21 ls (ab_gv (ls 5) :: st) w := E_loadr (n := 2) rfl h
theorem e_79_21 {ls : ab_L} {st : List Value} {w : ab_W} {v0 v1 v2 : Value} (h1 : ab_recv ab_mt 76 [v0, v1, v2] w.2 = true) (h8 : ab_w8 st = true) : ab_Run ab_mt 79 21 ls (v2 :: v1 :: v0 :: st) w = ab_aft 76 79 21 ls st (ab_Cl 76 [v0, v1, v2] w) := E_call3 rfl h1 h8
theorem e_79_24 {ls : ab_L} {st : List Value} {w : ab_W} {x : Int32} : ab_Run ab_mt 79 24 ls (.int x :: st) w = ab_Run ab_mt 79 26 (ab_l1 ls 7 (.int x)) st w := E_stori (n := 2) rfl
theorem e_79_26 {ls : ab_L} {st : List Value} {w : ab_W} (h : ab_isI (ls 7) = true) : ab_Run ab_mt 79 26 ls st w = ab_Run ab_mt 79 28 ls (ab_gv (ls 7) :: st) w := E_loadi (n := 2) rfl h
theorem e_79_28 {ls : ab_L} {st : List Value} {w : ab_W} {x : Int32} : ab_Run ab_mt 79 28 ls (.int x :: st) w = if 0 ≤ x then ab_Run ab_mt 79 41 ls st w else ab_Run ab_mt 79 31 ls st w := E_if_ge rfl
theorem e_79_31 {ls : ab_L} {st : List Value} {w : ab_W} (h : ab_isR (ls 3) = true) : ab_Run ab_mt 79 31 ls st w = ab_Run ab_mt 79 32 ls (ab_gv (ls 3) :: st) w := E_loadr (n := 1) rfl h
theorem e_79_32 {ls : ab_L} {st : List Value} {w : ab_W} : ab_Run ab_mt 79 32 ls st w = ab_Run ab_mt 79 33 ls (.int (nI 1) :: st) w := E_push (n := 1) rfl
theorem e_79_33 {ls : ab_L} {st : List Value} {w : ab_W} {a : Nat} {i : Int32} (h : ab_inI i (w.2 a) = true) : ab_Run ab_mt 79 33 ls (.int i :: .ref a :: st) w = ab_Run ab_mt 79 34 ls (.int (ab_aI i.toNatClampNeg (w.2 a)) :: st) w := E_iald rfl h
theorem e_79_34 {ls : ab_L} {st : List Value} {w : ab_W} : ab_Run ab_mt 79 34 ls st w = ab_Run ab_mt 79 36 ls (.int (nI 6) :: st) w := E_push (n := 2) rfl
theorem e_79_36 {ls : ab_L} {st : List Value} {w : ab_W} {x y : Int32} : ab_Run ab_mt 79 36 ls (.int y :: .int x :: st) w = if x = y then ab_Run ab_mt 79 39 ls st w else ab_Run ab_mt 79 41 ls st w := E_ic_ne rfl
theorem e_79_39 {ls : ab_L} {st : List Value} {w : ab_W} : ab_Run ab_mt 79 39 ls st w = ab_Run ab_mt 79 40 ls (.int (nI 1) :: st) w := E_push (n := 1) rfl
theorem e_79_40 {ls : ab_L} {w : ab_W} {x : Int32} (h : ab_fitr 2 (.int x) = true) : ab_Run ab_mt 79 40 ls [.int x] w = some (.inl (some (.int x)), w) := E_retz rfl h
theorem e_79_41 {ls : ab_L} {st : List Value} {w : ab_W} (h : ab_isI (ls 7) = true) : ab_Run ab_mt 79 41 ls st w = ab_Run ab_mt 79 43 ls (ab_gv (ls 7) :: st) w := E_loadi (n := 2) rfl h
theorem e_79_43 {ls : ab_L} {st : List Value} {w : ab_W} {x : Int32} : ab_Run ab_mt 79 43 ls (.int x :: st) w = if 0 ≤ x then ab_Run ab_mt 79 56 ls st w else ab_Run ab_mt 79 46 ls st w := E_if_ge rfl
theorem e_79_46 {ls : ab_L} {st : List Value} {w : ab_W} (h : ab_isR (ls 3) = true) : ab_Run ab_mt 79 46 ls st w = ab_Run ab_mt 79 47 ls (ab_gv (ls 3) :: st) w := E_loadr (n := 1) rfl h
theorem e_79_47 {ls : ab_L} {st : List Value} {w : ab_W} : ab_Run ab_mt 79 47 ls st w = ab_Run ab_mt 79 48 ls (.int (nI 1) :: st) w := E_push (n := 1) rfl
theorem e_79_48 {ls : ab_L} {st : List Value} {w : ab_W} {x : Nat} {y : Int32} : ab_Run ab_mt 79 48 ls (.int y :: .ref x :: st) w = ab_Run ab_mt 79 49 ls (.int y :: .ref x :: .int y :: .ref x :: st) w := E_dup2 rfl
theorem e_79_49 {ls : ab_L} {st : List Value} {w : ab_W} {a : Nat} {i : Int32} (h : ab_inI i (w.2 a) = true) : ab_Run ab_mt 79 49 ls (.int i :: .ref a :: st) w = ab_Run ab_mt 79 50 ls (.int (ab_aI i.toNatClampNeg (w.2 a)) :: st) w := E_iald rfl h
theorem e_79_50 {ls : ab_L} {st : List Value} {w : ab_W} {x y : Int32} {z : Nat} : ab_Run ab_mt 79 50 ls (.int x :: .int y :: .ref z :: st) w = ab_Run ab_mt 79 51 ls (.int x :: .int y :: .ref z :: .int x :: st) w := E_dx2 rfl
theorem e_79_51 {ls : ab_L} {st : List Value} {w : ab_W} : ab_Run ab_mt 79 51 ls st w = ab_Run ab_mt 79 52 ls (.int (nI 1) :: st) w := E_push (n := 1) rfl
theorem e_79_52 {ls : ab_L} {st : List Value} {w : ab_W} {x y : Int32} : ab_Run ab_mt 79 52 ls (.int y :: .int x :: st) w = ab_Run ab_mt 79 53 ls (.int (x + y) :: st) w := E_ib (f := fun x y => x + y) rfl
theorem e_79_53 {ls : ab_L} {st : List Value} {w : ab_W} {a : Nat} {i x : Int32} (h : ab_inW i (w.2 a) = true) : ab_Run ab_mt 79 53 ls (.int x :: .int i :: .ref a :: st) w = ab_Run ab_mt 79 54 ls st (w.1, ab_up w.2 a (ab_sI i.toNatClampNeg x (w.2 a))) := E_iast rfl h
theorem e_79_54 {ls : ab_L} {st : List Value} {w : ab_W} {x : Int32} : ab_Run ab_mt 79 54 ls (.int x :: st) w = ab_Run ab_mt 79 56 (ab_l1 ls 7 (.int x)) st w := E_stori (n := 2) rfl
theorem e_79_56 {ls : ab_L} {st : List Value} {w : ab_W} (h : ab_isR (ls 5) = true) : ab_Run ab_mt 79 56 ls st w = ab_Run ab_mt 79 58 ls (ab_gv (ls 5) :: st) w := E_loadr (n := 2) rfl h
theorem e_79_58 {ls : ab_L} {st : List Value} {w : ab_W} : ab_Run ab_mt 79 58 ls st w = ab_Run ab_mt 79 59 ls (.int (nI 3) :: st) w := E_push (n := 1) rfl
theorem e_79_59 {ls : ab_L} {st : List Value} {w : ab_W} (h : ab_isI (ls 7) = true) : ab_Run ab_mt 79 59 ls st w = ab_Run ab_mt 79 61 ls (ab_gv (ls 7) :: st) w := E_loadi (n := 2) rfl h
theorem e_79_61 {ls : ab_L} {st : List Value} {w : ab_W} {x y : Int32} : ab_Run ab_mt 79 61 ls (.int y :: .int x :: st) w = ab_Run ab_mt 79 62 ls (.int (x * y) :: st) w := E_ib (f := fun x y => x * y) rfl
theorem e_79_62 {ls : ab_L} {st : List Value} {w : ab_W} (h : ab_isI (ls 6) = true) : ab_Run ab_mt 79 62 ls st w = ab_Run ab_mt 79 64 ls (ab_gv (ls 6) :: st) w := E_loadi (n := 2) rfl h
theorem e_79_64 {ls : ab_L} {st : List Value} {w : ab_W} {a : Nat} {i x : Int32} (h : ab_inW i (w.2 a) = true) : ab_Run ab_mt 79 64 ls (.int x :: .int i :: .ref a :: st) w = ab_Run ab_mt 79 65 ls st (w.1, ab_up w.2 a (ab_sI i.toNatClampNeg x (w.2 a))) := E_iast rfl h
theorem e_79_65 {ls : ab_L} {st : List Value} {w : ab_W} (h : ab_isR (ls 5) = true) : ab_Run ab_mt 79 65 ls st w = ab_Run ab_mt 79 67 ls (ab_gv (ls 5) :: st) w := E_loadr (n := 2) rfl h
theorem e_79_67 {ls : ab_L} {st : List Value} {w : ab_W} : ab_Run ab_mt 79 67 ls st w = ab_Run ab_mt 79 68 ls (.int (nI 3) :: st) w := E_push (n := 1) rfl
theorem e_79_68 {ls : ab_L} {st : List Value} {w : ab_W} (h : ab_isI (ls 7) = true) : ab_Run ab_mt 79 68 ls st w = ab_Run ab_mt 79 70 ls (ab_gv (ls 7) :: st) w := E_loadi (n := 2) rfl h
theorem e_79_70 {ls : ab_L} {st : List Value} {w : ab_W} {x y : Int32} : ab_Run ab_mt 79 70 ls (.int y :: .int x :: st) w = ab_Run ab_mt 79 71 ls (.int (x * y) :: st) w := E_ib (f := fun x y => x * y) rfl
theorem e_79_71 {ls : ab_L} {st : List Value} {w : ab_W} : ab_Run ab_mt 79 71 ls st w = ab_Run ab_mt 79 72 ls (.int (nI 1) :: st) w := E_push (n := 1) rfl
theorem e_79_72 {ls : ab_L} {st : List Value} {w : ab_W} {x y : Int32} : ab_Run ab_mt 79 72 ls (.int y :: .int x :: st) w = ab_Run ab_mt 79 73 ls (.int (x + y) :: st) w := E_ib (f := fun x y => x + y) rfl
theorem e_79_73 {ls : ab_L} {st : List Value} {w : ab_W} : ab_Run ab_mt 79 73 ls st w = ab_Run ab_mt 79 76 ls (.int (nI 200) :: st) w := E_push (n := 3) rfl
theorem e_79_76 {ls : ab_L} {st : List Value} {w : ab_W} (h : ab_isI (ls 2) = true) : ab_Run ab_mt 79 76 ls st w = ab_Run ab_mt 79 77 ls (ab_gv (ls 2) :: st) w := E_loadi (n := 1) rfl h
theorem e_79_77 {ls : ab_L} {st : List Value} {w : ab_W} (h : ab_isI (ls 2) = true) : ab_Run ab_mt 79 77 ls st w = ab_Run ab_mt 79 78 ls (ab_gv (ls 2) :: st) w := E_loadi (n := 1) rfl h
theorem e_79_78 {ls : ab_L} {st : List Value} {w : ab_W} : ab_Run ab_mt 79 78 ls st w = ab_Run ab_mt 79 80 ls (.int (nI 14) :: st) w := E_push (n := 2) rfl
theorem e_79_80 {ls : ab_L} {st : List Value} {w : ab_W} {x y : Int32} : ab_Run ab_mt 79 80 ls (.int y :: .int x :: st) w = ab_Run ab_mt 79 81 ls (.int (x >>> (y &&& 31)) :: st) w := E_ib (f := fun x y => x >>> (y &&& 31)) rfl
theorem e_79_81 {ls : ab_L} {st : List Value} {w : ab_W} : ab_Run ab_mt 79 81 ls st w = ab_Run ab_mt 79 82 ls (.int (nI 2) :: st) w := E_push (n := 1) rfl
theorem e_79_82 {ls : ab_L} {st : List Value} {w : ab_W} {v0 v1 : Value} (h1 : ab_recv ab_mt 64 [v0, v1] w.2 = true) (h8 : ab_w8 st = true) : ab_Run ab_mt 79 82 ls (v1 :: v0 :: st) w = ab_aft 64 79 82 ls st (ab_Cl 64 [v0, v1] w) := E_call2 rfl h1 h8
theorem e_79_85 {ls : ab_L} {st : List Value} {w : ab_W} {x : Int32} : ab_Run ab_mt 79 85 ls (.int x :: st) w = if x = 0 then ab_Run ab_mt 79 88 ls st w else ab_Run ab_mt 79 94 ls st w := E_if_ne rfl
theorem e_79_88 {ls : ab_L} {st : List Value} {w : ab_W} : ab_Run ab_mt 79 88 ls st w = ab_Run ab_mt 79 91 ls (.int (nI 3801) :: st) w := E_push (n := 3) rfl
theorem e_79_91 {ls : ab_L} {st : List Value} {w : ab_W} : ab_Run ab_mt 79 91 ls st w = ab_Run ab_mt 79 97 ls st w := E_goto rfl
theorem e_79_94 {ls : ab_L} {st : List Value} {w : ab_W} : ab_Run ab_mt 79 94 ls st w = ab_Run ab_mt 79 97 ls (.int (nI 1400) :: st) w := E_push (n := 3) rfl
theorem e_79_97 {ls : ab_L} {st : List Value} {w : ab_W} {v0 v1 : Value} (h1 : ab_recv ab_mt 64 [v0, v1] w.2 = true) (h8 : ab_w8 st = true) : ab_Run ab_mt 79 97 ls (v1 :: v0 :: st) w = ab_aft 64 79 97 ls st (ab_Cl 64 [v0, v1] w) := E_call2 rfl h1 h8
theorem e_79_100 {ls : ab_L} {st : List Value} {w : ab_W} {x y : Int32} : ab_Run ab_mt 79 100 ls (.int y :: .int x :: st) w = ab_Run ab_mt 79 101 ls (.int (x + y) :: st) w := E_ib (f := fun x y => x + y) rfl
theorem e_79_101 {ls : ab_L} {st : List Value} {w : ab_W} {a : Nat} {i x : Int32} (h : ab_inW i (w.2 a) = true) : ab_Run ab_mt 79 101 ls (.int x :: .int i :: .ref a :: st) w = ab_Run ab_mt 79 102 ls st (w.1, ab_up w.2 a (ab_sI i.toNatClampNeg x (w.2 a))) := E_iast rfl h
theorem e_79_102 {ls : ab_L} {st : List Value} {w : ab_W} (h : ab_isR (ls 5) = true) : ab_Run ab_mt 79 102 ls st w = ab_Run ab_mt 79 104 ls (ab_gv (ls 5) :: st) w := E_loadr (n := 2) rfl h
theorem e_79_104 {ls : ab_L} {st : List Value} {w : ab_W} : ab_Run ab_mt 79 104 ls st w = ab_Run ab_mt 79 105 ls (.int (nI 3) :: st) w := E_push (n := 1) rfl
theorem e_79_105 {ls : ab_L} {st : List Value} {w : ab_W} (h : ab_isI (ls 7) = true) : ab_Run ab_mt 79 105 ls st w = ab_Run ab_mt 79 107 ls (ab_gv (ls 7) :: st) w := E_loadi (n := 2) rfl h
theorem e_79_107 {ls : ab_L} {st : List Value} {w : ab_W} {x y : Int32} : ab_Run ab_mt 79 107 ls (.int y :: .int x :: st) w = ab_Run ab_mt 79 108 ls (.int (x * y) :: st) w := E_ib (f := fun x y => x * y) rfl
theorem e_79_108 {ls : ab_L} {st : List Value} {w : ab_W} : ab_Run ab_mt 79 108 ls st w = ab_Run ab_mt 79 109 ls (.int (nI 2) :: st) w := E_push (n := 1) rfl
theorem e_79_109 {ls : ab_L} {st : List Value} {w : ab_W} {x y : Int32} : ab_Run ab_mt 79 109 ls (.int y :: .int x :: st) w = ab_Run ab_mt 79 110 ls (.int (x + y) :: st) w := E_ib (f := fun x y => x + y) rfl
theorem e_79_110 {ls : ab_L} {st : List Value} {w : ab_W} (h : ab_isI (ls 1) = true) : ab_Run ab_mt 79 110 ls st w = ab_Run ab_mt 79 111 ls (ab_gv (ls 1) :: st) w := E_loadi (n := 1) rfl h
theorem e_79_111 {ls : ab_L} {st : List Value} {w : ab_W} : ab_Run ab_mt 79 111 ls st w = ab_Run ab_mt 79 113 ls (.int (nI 9) :: st) w := E_push (n := 2) rfl
theorem e_79_113 {ls : ab_L} {st : List Value} {w : ab_W} {x y : Int32} : ab_Run ab_mt 79 113 ls (.int y :: .int x :: st) w = ab_Run ab_mt 79 114 ls (.int (x >>> (y &&& 31)) :: st) w := E_ib (f := fun x y => x >>> (y &&& 31)) rfl
theorem e_79_114 {ls : ab_L} {st : List Value} {w : ab_W} : ab_Run ab_mt 79 114 ls st w = ab_Run ab_mt 79 115 ls (.int (nI 3) :: st) w := E_push (n := 1) rfl
theorem e_79_115 {ls : ab_L} {st : List Value} {w : ab_W} {v0 v1 : Value} (h1 : ab_recv ab_mt 64 [v0, v1] w.2 = true) (h8 : ab_w8 st = true) : ab_Run ab_mt 79 115 ls (v1 :: v0 :: st) w = ab_aft 64 79 115 ls st (ab_Cl 64 [v0, v1] w) := E_call2 rfl h1 h8
theorem e_79_118 {ls : ab_L} {st : List Value} {w : ab_W} {x : Int32} : ab_Run ab_mt 79 118 ls (.int x :: st) w = if x ≤ 0 then ab_Run ab_mt 79 125 ls st w else ab_Run ab_mt 79 121 ls st w := E_if_le rfl
theorem e_79_121 {ls : ab_L} {st : List Value} {w : ab_W} : ab_Run ab_mt 79 121 ls st w = ab_Run ab_mt 79 122 ls (.int (nI 1) :: st) w := E_push (n := 1) rfl
theorem e_79_122 {ls : ab_L} {st : List Value} {w : ab_W} : ab_Run ab_mt 79 122 ls st w = ab_Run ab_mt 79 126 ls st w := E_goto rfl
theorem e_79_125 {ls : ab_L} {st : List Value} {w : ab_W} : ab_Run ab_mt 79 125 ls st w = ab_Run ab_mt 79 126 ls (.int (nI 0) :: st) w := E_push (n := 1) rfl
theorem e_79_126 {ls : ab_L} {st : List Value} {w : ab_W} {a : Nat} {i x : Int32} (h : ab_inW i (w.2 a) = true) : ab_Run ab_mt 79 126 ls (.int x :: .int i :: .ref a :: st) w = ab_Run ab_mt 79 127 ls st (w.1, ab_up w.2 a (ab_sI i.toNatClampNeg x (w.2 a))) := E_iast rfl h
theorem e_79_127 {ls : ab_L} {st : List Value} {w : ab_W} (h : ab_isR (ls 0) = true) : ab_Run ab_mt 79 127 ls st w = ab_Run ab_mt 79 128 ls (ab_gv (ls 0) :: st) w := E_loadr (n := 1) rfl h
theorem e_79_128 {ls : ab_L} {st : List Value} {w : ab_W} (h : ab_isI (ls 6) = true) : ab_Run ab_mt 79 128 ls st w = ab_Run ab_mt 79 130 ls (ab_gv (ls 6) :: st) w := E_loadi (n := 2) rfl h
theorem e_79_130 {ls : ab_L} {st : List Value} {w : ab_W} (h : ab_isR (ls 5) = true) : ab_Run ab_mt 79 130 ls st w = ab_Run ab_mt 79 132 ls (ab_gv (ls 5) :: st) w := E_loadr (n := 2) rfl h
theorem e_79_132 {ls : ab_L} {st : List Value} {w : ab_W} : ab_Run ab_mt 79 132 ls st w = ab_Run ab_mt 79 133 ls (.int (nI 3) :: st) w := E_push (n := 1) rfl
theorem e_79_133 {ls : ab_L} {st : List Value} {w : ab_W} (h : ab_isI (ls 7) = true) : ab_Run ab_mt 79 133 ls st w = ab_Run ab_mt 79 135 ls (ab_gv (ls 7) :: st) w := E_loadi (n := 2) rfl h
theorem e_79_135 {ls : ab_L} {st : List Value} {w : ab_W} {x y : Int32} : ab_Run ab_mt 79 135 ls (.int y :: .int x :: st) w = ab_Run ab_mt 79 136 ls (.int (x * y) :: st) w := E_ib (f := fun x y => x * y) rfl
theorem e_79_136 {ls : ab_L} {st : List Value} {w : ab_W} : ab_Run ab_mt 79 136 ls st w = ab_Run ab_mt 79 137 ls (.int (nI 1) :: st) w := E_push (n := 1) rfl
theorem e_79_137 {ls : ab_L} {st : List Value} {w : ab_W} {x y : Int32} : ab_Run ab_mt 79 137 ls (.int y :: .int x :: st) w = ab_Run ab_mt 79 138 ls (.int (x + y) :: st) w := E_ib (f := fun x y => x + y) rfl
theorem e_79_138 {ls : ab_L} {st : List Value} {w : ab_W} {a : Nat} {i : Int32} (h : ab_inI i (w.2 a) = true) : ab_Run ab_mt 79 138 ls (.int i :: .ref a :: st) w = ab_Run ab_mt 79 139 ls (.int (ab_aI i.toNatClampNeg (w.2 a)) :: st) w := E_iald rfl h
theorem e_79_139 {ls : ab_L} {st : List Value} {w : ab_W} (h : ab_isR (ls 5) = true) : ab_Run ab_mt 79 139 ls st w = ab_Run ab_mt 79 141 ls (ab_gv (ls 5) :: st) w := E_loadr (n := 2) rfl h
theorem e_79_141 {ls : ab_L} {st : List Value} {w : ab_W} : ab_Run ab_mt 79 141 ls st w = ab_Run ab_mt 79 142 ls (.int (nI 3) :: st) w := E_push (n := 1) rfl
theorem e_79_142 {ls : ab_L} {st : List Value} {w : ab_W} (h : ab_isI (ls 7) = true) : ab_Run ab_mt 79 142 ls st w = ab_Run ab_mt 79 144 ls (ab_gv (ls 7) :: st) w := E_loadi (n := 2) rfl h
theorem e_79_144 {ls : ab_L} {st : List Value} {w : ab_W} {x y : Int32} : ab_Run ab_mt 79 144 ls (.int y :: .int x :: st) w = ab_Run ab_mt 79 145 ls (.int (x * y) :: st) w := E_ib (f := fun x y => x * y) rfl
theorem e_79_145 {ls : ab_L} {st : List Value} {w : ab_W} : ab_Run ab_mt 79 145 ls st w = ab_Run ab_mt 79 146 ls (.int (nI 2) :: st) w := E_push (n := 1) rfl
theorem e_79_146 {ls : ab_L} {st : List Value} {w : ab_W} {x y : Int32} : ab_Run ab_mt 79 146 ls (.int y :: .int x :: st) w = ab_Run ab_mt 79 147 ls (.int (x + y) :: st) w := E_ib (f := fun x y => x + y) rfl
theorem e_79_147 {ls : ab_L} {st : List Value} {w : ab_W} {a : Nat} {i : Int32} (h : ab_inI i (w.2 a) = true) : ab_Run ab_mt 79 147 ls (.int i :: .ref a :: st) w = ab_Run ab_mt 79 148 ls (.int (ab_aI i.toNatClampNeg (w.2 a)) :: st) w := E_iald rfl h
theorem e_79_148 {ls : ab_L} {st : List Value} {w : ab_W} : ab_Run ab_mt 79 148 ls st w = ab_Run ab_mt 79 149 ls (.int (nI 1) :: st) w := E_push (n := 1) rfl
theorem e_79_149 {ls : ab_L} {st : List Value} {w : ab_W} {x y : Int32} : ab_Run ab_mt 79 149 ls (.int y :: .int x :: st) w = if x = y then ab_Run ab_mt 79 152 ls st w else ab_Run ab_mt 79 156 ls st w := E_ic_ne rfl
theorem e_79_152 {ls : ab_L} {st : List Value} {w : ab_W} : ab_Run ab_mt 79 152 ls st w = ab_Run ab_mt 79 153 ls (.int (nI 1) :: st) w := E_push (n := 1) rfl
theorem e_79_153 {ls : ab_L} {st : List Value} {w : ab_W} : ab_Run ab_mt 79 153 ls st w = ab_Run ab_mt 79 157 ls st w := E_goto rfl
theorem e_79_156 {ls : ab_L} {st : List Value} {w : ab_W} : ab_Run ab_mt 79 156 ls st w = ab_Run ab_mt 79 157 ls (.int (nI 0) :: st) w := E_push (n := 1) rfl
theorem e_79_157 {ls : ab_L} {st : List Value} {w : ab_W} {v0 v1 v2 v3 : Value} (h1 : ab_recv ab_mt 4 [v0, v1, v2, v3] w.2 = true) (h8 : ab_w8 st = true) : ab_Run ab_mt 79 157 ls (v3 :: v2 :: v1 :: v0 :: st) w = ab_aft 4 79 157 ls st (ab_Cl 4 [v0, v1, v2, v3] w) := E_call4 rfl h1 h8
theorem e_79_160 {ls : ab_L} {st : List Value} {w : ab_W} (h : ab_isR (ls 3) = true) : ab_Run ab_mt 79 160 ls st w = ab_Run ab_mt 79 161 ls (ab_gv (ls 3) :: st) w := E_loadr (n := 1) rfl h
theorem e_79_161 {ls : ab_L} {st : List Value} {w : ab_W} : ab_Run ab_mt 79 161 ls st w = ab_Run ab_mt 79 162 ls (.int (nI 1) :: st) w := E_push (n := 1) rfl
theorem e_79_162 {ls : ab_L} {st : List Value} {w : ab_W} {a : Nat} {i : Int32} (h : ab_inI i (w.2 a) = true) : ab_Run ab_mt 79 162 ls (.int i :: .ref a :: st) w = ab_Run ab_mt 79 163 ls (.int (ab_aI i.toNatClampNeg (w.2 a)) :: st) w := E_iald rfl h
theorem e_79_163 {ls : ab_L} {st : List Value} {w : ab_W} {x y : Int32} : ab_Run ab_mt 79 163 ls (.int y :: .int x :: st) w = if x = y then ab_Run ab_mt 79 166 ls st w else ab_Run ab_mt 79 170 ls st w := E_ic_ne rfl
theorem e_79_166 {ls : ab_L} {st : List Value} {w : ab_W} : ab_Run ab_mt 79 166 ls st w = ab_Run ab_mt 79 167 ls (.int (nI 1) :: st) w := E_push (n := 1) rfl
theorem e_79_167 {ls : ab_L} {st : List Value} {w : ab_W} : ab_Run ab_mt 79 167 ls st w = ab_Run ab_mt 79 171 ls st w := E_goto rfl
theorem e_79_170 {ls : ab_L} {st : List Value} {w : ab_W} : ab_Run ab_mt 79 170 ls st w = ab_Run ab_mt 79 171 ls (.int (nI 0) :: st) w := E_push (n := 1) rfl
theorem e_79_171 {ls : ab_L} {w : ab_W} {x : Int32} (h : ab_fitr 2 (.int x) = true) : ab_Run ab_mt 79 171 ls [.int x] w = some (.inl (some (.int x)), w) := E_retz rfl h
theorem rv_79 {σ : ab_S} {x0 : Nat} {x1 : Int32} {x2 : Int32} {x3 : Nat} {x4 : Nat} {x5 : Nat} : ab_recv ab_mt 79 [.ref x0, .int x1, .int x2, .ref x3, .ref x4, .ref x5] σ = true := rfl
theorem x_79_157 {ls : ab_L} {rest : List Value} {E : Nat} {w : ab_W} : ab_aft 4 79 157 ls rest (some (.inr E, w)) = some (.inr E, w) := ab_aft_x rfl rfl (by unfold ab_hand; rfl)
theorem e_80_0 {ls : ab_L} {st : List Value} {w : ab_W} (h : ab_isR (ls 3) = true) : ab_Run ab_mt 80 0 ls st w = ab_Run ab_mt 80 1 ls (ab_gv (ls 3) :: st) w := E_loadr (n := 1) rfl h
theorem e_80_1 {ls : ab_L} {st : List Value} {w : ab_W} : ab_Run ab_mt 80 1 ls st w = ab_Run ab_mt 80 2 ls (.int (nI 2) :: st) w := E_push (n := 1) rfl
theorem e_80_2 {ls : ab_L} {st : List Value} {w : ab_W} {a : Nat} {i : Int32} (h : ab_inI i (w.2 a) = true) : ab_Run ab_mt 80 2 ls (.int i :: .ref a :: st) w = ab_Run ab_mt 80 3 ls (.int (ab_aI i.toNatClampNeg (w.2 a)) :: st) w := E_iald rfl h
theorem e_80_3 {ls : ab_L} {st : List Value} {w : ab_W} : ab_Run ab_mt 80 3 ls st w = ab_Run ab_mt 80 4 ls (.int (nI 5) :: st) w := E_push (n := 1) rfl
theorem e_80_4 {ls : ab_L} {st : List Value} {w : ab_W} {x y : Int32} : ab_Run ab_mt 80 4 ls (.int y :: .int x :: st) w = if x = y then ab_Run ab_mt 80 7 ls st w else ab_Run ab_mt 80 9 ls st w := E_ic_ne rfl
theorem e_80_7 {ls : ab_L} {st : List Value} {w : ab_W} : ab_Run ab_mt 80 7 ls st w = ab_Run ab_mt 80 8 ls (.int (nI 1) :: st) w := E_push (n := 1) rfl
theorem e_80_8 {ls : ab_L} {w : ab_W} {x : Int32} (h : ab_fitr 2 (.int x) = true) : ab_Run ab_mt 80 8 ls [.int x] w = some (.inl (some (.int x)), w) := E_retz rfl h
theorem e_80_9 {ls : ab_L} {st : List Value} {w : ab_W} : ab_Run ab_mt 80 9 ls st w = ab_Run ab_mt 80 10 ls (.int (nI 3) :: st) w := E_push (n := 1) rfl
theorem e_80_10 {ls : ab_L} {st : List Value} {w : ab_W} (h : ab_isR (ls 3) = true) : ab_Run ab_mt 80 10 ls st w = ab_Run ab_mt 80 11 ls (ab_gv (ls 3) :: st) w := E_loadr (n := 1) rfl h
theorem e_80_11 {ls : ab_L} {st : List Value} {w : ab_W} : ab_Run ab_mt 80 11 ls st w = ab_Run ab_mt 80 12 ls (.int (nI 2) :: st) w := E_push (n := 1) rfl
theorem e_80_12 {ls : ab_L} {st : List Value} {w : ab_W} {a : Nat} {i : Int32} (h : ab_inI i (w.2 a) = true) : ab_Run ab_mt 80 12 ls (.int i :: .ref a :: st) w = ab_Run ab_mt 80 13 ls (.int (ab_aI i.toNatClampNeg (w.2 a)) :: st) w := E_iald rfl h
theorem e_80_13 {ls : ab_L} {st : List Value} {w : ab_W} {x y : Int32} : ab_Run ab_mt 80 13 ls (.int y :: .int x :: st) w = ab_Run ab_mt 80 14 ls (.int (x * y) :: st) w := E_ib (f := fun x y => x * y) rfl
theorem e_80_14 {ls : ab_L} {st : List Value} {w : ab_W} {x : Int32} : ab_Run ab_mt 80 14 ls (.int x :: st) w = ab_Run ab_mt 80 16 (ab_l1 ls 6 (.int x)) st w := E_stori (n := 2) rfl
theorem e_80_16 {ls : ab_L} {st : List Value} {w : ab_W} (h : ab_isR (ls 5) = true) : ab_Run ab_mt 80 16 ls st w = ab_Run ab_mt 80 18 ls (ab_gv (ls 5) :: st) w := E_loadr (n := 2) rfl h
theorem e_80_18 {ls : ab_L} {st : List Value} {w : ab_W} (h : ab_isI (ls 6) = true) : ab_Run ab_mt 80 18 ls st w = ab_Run ab_mt 80 20 ls (ab_gv (ls 6) :: st) w := E_loadi (n := 2) rfl h
theorem e_80_20 {ls : ab_L} {st : List Value} {w : ab_W} (h : ab_isI (ls 1) = true) : ab_Run ab_mt 80 20 ls st w = ab_Run ab_mt 80 21 ls (ab_gv (ls 1) :: st) w := E_loadi (n := 1) rfl h
theorem e_80_21 {ls : ab_L} {st : List Value} {w : ab_W} (h : ab_isR (ls 3) = true) : ab_Run ab_mt 80 21 ls st w = ab_Run ab_mt 80 22 ls (ab_gv (ls 3) :: st) w := E_loadr (n := 1) rfl h
theorem e_80_22 {ls : ab_L} {st : List Value} {w : ab_W} : ab_Run ab_mt 80 22 ls st w = ab_Run ab_mt 80 23 ls (.int (nI 0) :: st) w := E_push (n := 1) rfl
theorem e_80_23 {ls : ab_L} {st : List Value} {w : ab_W} {a : Nat} {i : Int32} (h : ab_inI i (w.2 a) = true) : ab_Run ab_mt 80 23 ls (.int i :: .ref a :: st) w = ab_Run ab_mt 80 24 ls (.int (ab_aI i.toNatClampNeg (w.2 a)) :: st) w := E_iald rfl h
theorem e_80_24 {ls : ab_L} {st : List Value} {w : ab_W} (h : ab_isR (ls 4) = true) : ab_Run ab_mt 80 24 ls st w = ab_Run ab_mt 80 26 ls (ab_gv (ls 4) :: st) w := E_loadr (n := 2) rfl h
theorem e_80_26 {ls : ab_L} {st : List Value} {w : ab_W} {v0 v1 : Value} (h1 : ab_recv ab_mt 65 [v0, v1] w.2 = true) (h8 : ab_w8 st = true) : ab_Run ab_mt 80 26 ls (v1 :: v0 :: st) w = ab_aft 65 80 26 ls st (ab_Cl 65 [v0, v1] w) := E_call2 rfl h1 h8
theorem e_80_29 {ls : ab_L} {st : List Value} {w : ab_W} {v0 v1 : Value} (h1 : ab_recv ab_mt 64 [v0, v1] w.2 = true) (h8 : ab_w8 st = true) : ab_Run ab_mt 80 29 ls (v1 :: v0 :: st) w = ab_aft 64 80 29 ls st (ab_Cl 64 [v0, v1] w) := E_call2 rfl h1 h8
theorem e_80_32 {ls : ab_L} {st : List Value} {w : ab_W} {a : Nat} {i x : Int32} (h : ab_inW i (w.2 a) = true) : ab_Run ab_mt 80 32 ls (.int x :: .int i :: .ref a :: st) w = ab_Run ab_mt 80 33 ls st (w.1, ab_up w.2 a (ab_sI i.toNatClampNeg x (w.2 a))) := E_iast rfl h
theorem e_80_33 {ls : ab_L} {st : List Value} {w : ab_W} (h : ab_isR (ls 5) = true) : ab_Run ab_mt 80 33 ls st w = ab_Run ab_mt 80 35 ls (ab_gv (ls 5) :: st) w := E_loadr (n := 2) rfl h
theorem e_80_35 {ls : ab_L} {st : List Value} {w : ab_W} (h : ab_isI (ls 6) = true) : ab_Run ab_mt 80 35 ls st w = ab_Run ab_mt 80 37 ls (ab_gv (ls 6) :: st) w := E_loadi (n := 2) rfl h
theorem e_80_37 {ls : ab_L} {st : List Value} {w : ab_W} : ab_Run ab_mt 80 37 ls st w = ab_Run ab_mt 80 38 ls (.int (nI 1) :: st) w := E_push (n := 1) rfl
theorem e_80_38 {ls : ab_L} {st : List Value} {w : ab_W} {x y : Int32} : ab_Run ab_mt 80 38 ls (.int y :: .int x :: st) w = ab_Run ab_mt 80 39 ls (.int (x + y) :: st) w := E_ib (f := fun x y => x + y) rfl
theorem e_80_39 {ls : ab_L} {st : List Value} {w : ab_W} (h : ab_isI (ls 2) = true) : ab_Run ab_mt 80 39 ls st w = ab_Run ab_mt 80 40 ls (ab_gv (ls 2) :: st) w := E_loadi (n := 1) rfl h
theorem e_80_40 {ls : ab_L} {st : List Value} {w : ab_W} : ab_Run ab_mt 80 40 ls st w = ab_Run ab_mt 80 43 ls (.int (nI 480) :: st) w := E_push (n := 3) rfl
theorem e_80_43 {ls : ab_L} {st : List Value} {w : ab_W} {v0 v1 : Value} (h1 : ab_recv ab_mt 64 [v0, v1] w.2 = true) (h8 : ab_w8 st = true) : ab_Run ab_mt 80 43 ls (v1 :: v0 :: st) w = ab_aft 64 80 43 ls st (ab_Cl 64 [v0, v1] w) := E_call2 rfl h1 h8
theorem e_80_46 {ls : ab_L} {st : List Value} {w : ab_W} {a : Nat} {i x : Int32} (h : ab_inW i (w.2 a) = true) : ab_Run ab_mt 80 46 ls (.int x :: .int i :: .ref a :: st) w = ab_Run ab_mt 80 47 ls st (w.1, ab_up w.2 a (ab_sI i.toNatClampNeg x (w.2 a))) := E_iast rfl h
theorem e_80_47 {ls : ab_L} {st : List Value} {w : ab_W} (h : ab_isR (ls 5) = true) : ab_Run ab_mt 80 47 ls st w = ab_Run ab_mt 80 49 ls (ab_gv (ls 5) :: st) w := E_loadr (n := 2) rfl h
theorem e_80_49 {ls : ab_L} {st : List Value} {w : ab_W} (h : ab_isI (ls 6) = true) : ab_Run ab_mt 80 49 ls st w = ab_Run ab_mt 80 51 ls (ab_gv (ls 6) :: st) w := E_loadi (n := 2) rfl h
theorem e_80_51 {ls : ab_L} {st : List Value} {w : ab_W} : ab_Run ab_mt 80 51 ls st w = ab_Run ab_mt 80 52 ls (.int (nI 2) :: st) w := E_push (n := 1) rfl
theorem e_80_52 {ls : ab_L} {st : List Value} {w : ab_W} {x y : Int32} : ab_Run ab_mt 80 52 ls (.int y :: .int x :: st) w = ab_Run ab_mt 80 53 ls (.int (x + y) :: st) w := E_ib (f := fun x y => x + y) rfl
theorem e_80_53 {ls : ab_L} {st : List Value} {w : ab_W} (h : ab_isI (ls 2) = true) : ab_Run ab_mt 80 53 ls st w = ab_Run ab_mt 80 54 ls (ab_gv (ls 2) :: st) w := E_loadi (n := 1) rfl h
theorem e_80_54 {ls : ab_L} {st : List Value} {w : ab_W} : ab_Run ab_mt 80 54 ls st w = ab_Run ab_mt 80 56 ls (.int (nI 10) :: st) w := E_push (n := 2) rfl
theorem e_80_56 {ls : ab_L} {st : List Value} {w : ab_W} {x y : Int32} : ab_Run ab_mt 80 56 ls (.int y :: .int x :: st) w = ab_Run ab_mt 80 57 ls (.int (x >>> (y &&& 31)) :: st) w := E_ib (f := fun x y => x >>> (y &&& 31)) rfl
theorem e_80_57 {ls : ab_L} {st : List Value} {w : ab_W} (h : ab_isI (ls 1) = true) : ab_Run ab_mt 80 57 ls st w = ab_Run ab_mt 80 58 ls (ab_gv (ls 1) :: st) w := E_loadi (n := 1) rfl h
theorem e_80_58 {ls : ab_L} {st : List Value} {w : ab_W} : ab_Run ab_mt 80 58 ls st w = ab_Run ab_mt 80 60 ls (.int (nI 8) :: st) w := E_push (n := 2) rfl
theorem e_80_60 {ls : ab_L} {st : List Value} {w : ab_W} {x y : Int32} : ab_Run ab_mt 80 60 ls (.int y :: .int x :: st) w = ab_Run ab_mt 80 61 ls (.int (x >>> (y &&& 31)) :: st) w := E_ib (f := fun x y => x >>> (y &&& 31)) rfl
theorem e_80_61 {ls : ab_L} {st : List Value} {w : ab_W} : ab_Run ab_mt 80 61 ls st w = ab_Run ab_mt 80 62 ls (.int (nI 2) :: st) w := E_push (n := 1) rfl
theorem e_80_62 {ls : ab_L} {st : List Value} {w : ab_W} {v0 v1 : Value} (h1 : ab_recv ab_mt 64 [v0, v1] w.2 = true) (h8 : ab_w8 st = true) : ab_Run ab_mt 80 62 ls (v1 :: v0 :: st) w = ab_aft 64 80 62 ls st (ab_Cl 64 [v0, v1] w) := E_call2 rfl h1 h8
theorem e_80_65 {ls : ab_L} {st : List Value} {w : ab_W} {x : Int32} : ab_Run ab_mt 80 65 ls (.int x :: st) w = if x = 0 then ab_Run ab_mt 80 68 ls st w else ab_Run ab_mt 80 74 ls st w := E_if_ne rfl
theorem e_80_68 {ls : ab_L} {st : List Value} {w : ab_W} : ab_Run ab_mt 80 68 ls st w = ab_Run ab_mt 80 71 ls (.int (nI 5001) :: st) w := E_push (n := 3) rfl
theorem e_80_71 {ls : ab_L} {st : List Value} {w : ab_W} : ab_Run ab_mt 80 71 ls st w = ab_Run ab_mt 80 77 ls st w := E_goto rfl
theorem e_80_74 {ls : ab_L} {st : List Value} {w : ab_W} : ab_Run ab_mt 80 74 ls st w = ab_Run ab_mt 80 77 ls (.int (nI 700) :: st) w := E_push (n := 3) rfl
theorem e_80_77 {ls : ab_L} {st : List Value} {w : ab_W} {v0 v1 : Value} (h1 : ab_recv ab_mt 64 [v0, v1] w.2 = true) (h8 : ab_w8 st = true) : ab_Run ab_mt 80 77 ls (v1 :: v0 :: st) w = ab_aft 64 80 77 ls st (ab_Cl 64 [v0, v1] w) := E_call2 rfl h1 h8
theorem e_80_80 {ls : ab_L} {st : List Value} {w : ab_W} {a : Nat} {i x : Int32} (h : ab_inW i (w.2 a) = true) : ab_Run ab_mt 80 80 ls (.int x :: .int i :: .ref a :: st) w = ab_Run ab_mt 80 81 ls st (w.1, ab_up w.2 a (ab_sI i.toNatClampNeg x (w.2 a))) := E_iast rfl h
theorem e_80_81 {ls : ab_L} {st : List Value} {w : ab_W} (h : ab_isR (ls 3) = true) : ab_Run ab_mt 80 81 ls st w = ab_Run ab_mt 80 82 ls (ab_gv (ls 3) :: st) w := E_loadr (n := 1) rfl h
theorem e_80_82 {ls : ab_L} {st : List Value} {w : ab_W} : ab_Run ab_mt 80 82 ls st w = ab_Run ab_mt 80 83 ls (.int (nI 2) :: st) w := E_push (n := 1) rfl
theorem e_80_83 {ls : ab_L} {st : List Value} {w : ab_W} {x : Nat} {y : Int32} : ab_Run ab_mt 80 83 ls (.int y :: .ref x :: st) w = ab_Run ab_mt 80 84 ls (.int y :: .ref x :: .int y :: .ref x :: st) w := E_dup2 rfl
theorem e_80_84 {ls : ab_L} {st : List Value} {w : ab_W} {a : Nat} {i : Int32} (h : ab_inI i (w.2 a) = true) : ab_Run ab_mt 80 84 ls (.int i :: .ref a :: st) w = ab_Run ab_mt 80 85 ls (.int (ab_aI i.toNatClampNeg (w.2 a)) :: st) w := E_iald rfl h
theorem e_80_85 {ls : ab_L} {st : List Value} {w : ab_W} : ab_Run ab_mt 80 85 ls st w = ab_Run ab_mt 80 86 ls (.int (nI 1) :: st) w := E_push (n := 1) rfl
theorem e_80_86 {ls : ab_L} {st : List Value} {w : ab_W} {x y : Int32} : ab_Run ab_mt 80 86 ls (.int y :: .int x :: st) w = ab_Run ab_mt 80 87 ls (.int (x + y) :: st) w := E_ib (f := fun x y => x + y) rfl
theorem e_80_87 {ls : ab_L} {st : List Value} {w : ab_W} {a : Nat} {i x : Int32} (h : ab_inW i (w.2 a) = true) : ab_Run ab_mt 80 87 ls (.int x :: .int i :: .ref a :: st) w = ab_Run ab_mt 80 88 ls st (w.1, ab_up w.2 a (ab_sI i.toNatClampNeg x (w.2 a))) := E_iast rfl h
theorem e_80_88 {ls : ab_L} {st : List Value} {w : ab_W} (h : ab_isR (ls 0) = true) : ab_Run ab_mt 80 88 ls st w = ab_Run ab_mt 80 89 ls (ab_gv (ls 0) :: st) w := E_loadr (n := 1) rfl h
theorem e_80_89 {ls : ab_L} {st : List Value} {w : ab_W} (h : ab_isR (ls 5) = true) : ab_Run ab_mt 80 89 ls st w = ab_Run ab_mt 80 91 ls (ab_gv (ls 5) :: st) w := E_loadr (n := 2) rfl h
theorem e_80_91 {ls : ab_L} {st : List Value} {w : ab_W} (h : ab_isI (ls 6) = true) : ab_Run ab_mt 80 91 ls st w = ab_Run ab_mt 80 93 ls (ab_gv (ls 6) :: st) w := E_loadi (n := 2) rfl h
theorem e_80_93 {ls : ab_L} {st : List Value} {w : ab_W} {a : Nat} {i : Int32} (h : ab_inI i (w.2 a) = true) : ab_Run ab_mt 80 93 ls (.int i :: .ref a :: st) w = ab_Run ab_mt 80 94 ls (.int (ab_aI i.toNatClampNeg (w.2 a)) :: st) w := E_iald rfl h
theorem e_80_94 {ls : ab_L} {st : List Value} {w : ab_W} (h : ab_isR (ls 5) = true) : ab_Run ab_mt 80 94 ls st w = ab_Run ab_mt 80 96 ls (ab_gv (ls 5) :: st) w := E_loadr (n := 2) rfl h
theorem e_80_96 {ls : ab_L} {st : List Value} {w : ab_W} (h : ab_isI (ls 6) = true) : ab_Run ab_mt 80 96 ls st w = ab_Run ab_mt 80 98 ls (ab_gv (ls 6) :: st) w := E_loadi (n := 2) rfl h
theorem e_80_98 {ls : ab_L} {st : List Value} {w : ab_W} : ab_Run ab_mt 80 98 ls st w = ab_Run ab_mt 80 99 ls (.int (nI 1) :: st) w := E_push (n := 1) rfl
theorem e_80_99 {ls : ab_L} {st : List Value} {w : ab_W} {x y : Int32} : ab_Run ab_mt 80 99 ls (.int y :: .int x :: st) w = ab_Run ab_mt 80 100 ls (.int (x + y) :: st) w := E_ib (f := fun x y => x + y) rfl
theorem e_80_100 {ls : ab_L} {st : List Value} {w : ab_W} {a : Nat} {i : Int32} (h : ab_inI i (w.2 a) = true) : ab_Run ab_mt 80 100 ls (.int i :: .ref a :: st) w = ab_Run ab_mt 80 101 ls (.int (ab_aI i.toNatClampNeg (w.2 a)) :: st) w := E_iald rfl h
theorem e_80_101 {ls : ab_L} {st : List Value} {w : ab_W} (h : ab_isR (ls 5) = true) : ab_Run ab_mt 80 101 ls st w = ab_Run ab_mt 80 103 ls (ab_gv (ls 5) :: st) w := E_loadr (n := 2) rfl h
theorem e_80_103 {ls : ab_L} {st : List Value} {w : ab_W} (h : ab_isI (ls 6) = true) : ab_Run ab_mt 80 103 ls st w = ab_Run ab_mt 80 105 ls (ab_gv (ls 6) :: st) w := E_loadi (n := 2) rfl h
theorem e_80_105 {ls : ab_L} {st : List Value} {w : ab_W} : ab_Run ab_mt 80 105 ls st w = ab_Run ab_mt 80 106 ls (.int (nI 2) :: st) w := E_push (n := 1) rfl
theorem e_80_106 {ls : ab_L} {st : List Value} {w : ab_W} {x y : Int32} : ab_Run ab_mt 80 106 ls (.int y :: .int x :: st) w = ab_Run ab_mt 80 107 ls (.int (x + y) :: st) w := E_ib (f := fun x y => x + y) rfl
theorem e_80_107 {ls : ab_L} {st : List Value} {w : ab_W} {a : Nat} {i : Int32} (h : ab_inI i (w.2 a) = true) : ab_Run ab_mt 80 107 ls (.int i :: .ref a :: st) w = ab_Run ab_mt 80 108 ls (.int (ab_aI i.toNatClampNeg (w.2 a)) :: st) w := E_iald rfl h
theorem e_80_108 {ls : ab_L} {st : List Value} {w : ab_W} {v0 v1 v2 v3 : Value} (h1 : ab_recv ab_mt 6 [v0, v1, v2, v3] w.2 = true) (h8 : ab_w8 st = true) : ab_Run ab_mt 80 108 ls (v3 :: v2 :: v1 :: v0 :: st) w = ab_aft 6 80 108 ls st (ab_Cl 6 [v0, v1, v2, v3] w) := E_call4 rfl h1 h8
theorem e_80_111 {ls : ab_L} {st : List Value} {w : ab_W} (h : ab_isR (ls 3) = true) : ab_Run ab_mt 80 111 ls st w = ab_Run ab_mt 80 112 ls (ab_gv (ls 3) :: st) w := E_loadr (n := 1) rfl h
theorem e_80_112 {ls : ab_L} {st : List Value} {w : ab_W} : ab_Run ab_mt 80 112 ls st w = ab_Run ab_mt 80 113 ls (.int (nI 2) :: st) w := E_push (n := 1) rfl
theorem e_80_113 {ls : ab_L} {st : List Value} {w : ab_W} {a : Nat} {i : Int32} (h : ab_inI i (w.2 a) = true) : ab_Run ab_mt 80 113 ls (.int i :: .ref a :: st) w = ab_Run ab_mt 80 114 ls (.int (ab_aI i.toNatClampNeg (w.2 a)) :: st) w := E_iald rfl h
theorem e_80_114 {ls : ab_L} {st : List Value} {w : ab_W} : ab_Run ab_mt 80 114 ls st w = ab_Run ab_mt 80 115 ls (.int (nI 1) :: st) w := E_push (n := 1) rfl
theorem e_80_115 {ls : ab_L} {st : List Value} {w : ab_W} {x y : Int32} : ab_Run ab_mt 80 115 ls (.int y :: .int x :: st) w = ab_Run ab_mt 80 116 ls (.int (x - y) :: st) w := E_ib (f := fun x y => x - y) rfl
theorem e_80_116 {ls : ab_L} {st : List Value} {w : ab_W} {x y : Int32} : ab_Run ab_mt 80 116 ls (.int y :: .int x :: st) w = if x = y then ab_Run ab_mt 80 119 ls st w else ab_Run ab_mt 80 123 ls st w := E_ic_ne rfl
theorem e_80_119 {ls : ab_L} {st : List Value} {w : ab_W} : ab_Run ab_mt 80 119 ls st w = ab_Run ab_mt 80 120 ls (.int (nI 1) :: st) w := E_push (n := 1) rfl
theorem e_80_120 {ls : ab_L} {st : List Value} {w : ab_W} : ab_Run ab_mt 80 120 ls st w = ab_Run ab_mt 80 124 ls st w := E_goto rfl
theorem e_80_123 {ls : ab_L} {st : List Value} {w : ab_W} : ab_Run ab_mt 80 123 ls st w = ab_Run ab_mt 80 124 ls (.int (nI 0) :: st) w := E_push (n := 1) rfl
theorem e_80_124 {ls : ab_L} {w : ab_W} {x : Int32} (h : ab_fitr 2 (.int x) = true) : ab_Run ab_mt 80 124 ls [.int x] w = some (.inl (some (.int x)), w) := E_retz rfl h
theorem rv_80 {σ : ab_S} {x0 : Nat} {x1 : Int32} {x2 : Int32} {x3 : Nat} {x4 : Nat} {x5 : Nat} : ab_recv ab_mt 80 [.ref x0, .int x1, .int x2, .ref x3, .ref x4, .ref x5] σ = true := rfl
theorem x_80_108 {ls : ab_L} {rest : List Value} {E : Nat} {w : ab_W} : ab_aft 6 80 108 ls rest (some (.inr E, w)) = some (.inr E, w) := ab_aft_x rfl rfl (by unfold ab_hand; rfl)
theorem e_81_0 {ls : ab_L} {st : List Value} {w : ab_W} (h : ab_isI (ls 1) = true) : ab_Run ab_mt 81 0 ls st w = ab_Run ab_mt 81 1 ls (ab_gv (ls 1) :: st) w := E_loadi (n := 1) rfl h
theorem e_81_1 {ls : ab_L} {st : List Value} {w : ab_W} (h : ab_isR (ls 3) = true) : ab_Run ab_mt 81 1 ls st w = ab_Run ab_mt 81 2 ls (ab_gv (ls 3) :: st) w := E_loadr (n := 1) rfl h
theorem e_81_2 {ls : ab_L} {st : List Value} {w : ab_W} : ab_Run ab_mt 81 2 ls st w = ab_Run ab_mt 81 3 ls (.int (nI 0) :: st) w := E_push (n := 1) rfl
theorem e_81_3 {ls : ab_L} {st : List Value} {w : ab_W} {a : Nat} {i : Int32} (h : ab_inI i (w.2 a) = true) : ab_Run ab_mt 81 3 ls (.int i :: .ref a :: st) w = ab_Run ab_mt 81 4 ls (.int (ab_aI i.toNatClampNeg (w.2 a)) :: st) w := E_iald rfl h
theorem e_81_4 {ls : ab_L} {st : List Value} {w : ab_W} {v0 v1 : Value} (h1 : ab_recv ab_mt 64 [v0, v1] w.2 = true) (h8 : ab_w8 st = true) : ab_Run ab_mt 81 4 ls (v1 :: v0 :: st) w = ab_aft 64 81 4 ls st (ab_Cl 64 [v0, v1] w) := E_call2 rfl h1 h8
theorem e_81_7 {ls : ab_L} {st : List Value} {w : ab_W} {x : Int32} : ab_Run ab_mt 81 7 ls (.int x :: st) w = ab_Run ab_mt 81 9 (ab_l1 ls 6 (.int x)) st w := E_stori (n := 2) rfl
theorem e_81_9 {ls : ab_L} {st : List Value} {w : ab_W} (h : ab_isI (ls 1) = true) : ab_Run ab_mt 81 9 ls st w = ab_Run ab_mt 81 10 ls (ab_gv (ls 1) :: st) w := E_loadi (n := 1) rfl h
theorem e_81_10 {ls : ab_L} {st : List Value} {w : ab_W} : ab_Run ab_mt 81 10 ls st w = ab_Run ab_mt 81 11 ls (.int (nI 4) :: st) w := E_push (n := 1) rfl
theorem e_81_11 {ls : ab_L} {st : List Value} {w : ab_W} {x y : Int32} : ab_Run ab_mt 81 11 ls (.int y :: .int x :: st) w = ab_Run ab_mt 81 12 ls (.int (x >>> (y &&& 31)) :: st) w := E_ib (f := fun x y => x >>> (y &&& 31)) rfl
theorem e_81_12 {ls : ab_L} {st : List Value} {w : ab_W} : ab_Run ab_mt 81 12 ls st w = ab_Run ab_mt 81 13 ls (.int (nI 5) :: st) w := E_push (n := 1) rfl
theorem e_81_13 {ls : ab_L} {st : List Value} {w : ab_W} {v0 v1 : Value} (h1 : ab_recv ab_mt 64 [v0, v1] w.2 = true) (h8 : ab_w8 st = true) : ab_Run ab_mt 81 13 ls (v1 :: v0 :: st) w = ab_aft 64 81 13 ls st (ab_Cl 64 [v0, v1] w) := E_call2 rfl h1 h8
theorem e_81_16 {ls : ab_L} {st : List Value} {w : ab_W} {x : Int32} : ab_Run ab_mt 81 16 ls (.int x :: st) w = ab_Run ab_mt 81 18 (ab_l1 ls 7 (.int x)) st w := E_stori (n := 2) rfl
theorem e_81_18 {ls : ab_L} {st : List Value} {w : ab_W} : ab_Run ab_mt 81 18 ls st w = ab_Run ab_mt 81 19 ls (.int (nI 5) :: st) w := E_push (n := 1) rfl
theorem e_81_19 {ls : ab_L} {st : List Value} {w : ab_W} (h : ab_isI (ls 6) = true) : ab_Run ab_mt 81 19 ls st w = ab_Run ab_mt 81 21 ls (ab_gv (ls 6) :: st) w := E_loadi (n := 2) rfl h
theorem e_81_21 {ls : ab_L} {st : List Value} {w : ab_W} {x y : Int32} : ab_Run ab_mt 81 21 ls (.int y :: .int x :: st) w = ab_Run ab_mt 81 22 ls (.int (x * y) :: st) w := E_ib (f := fun x y => x * y) rfl
theorem e_81_22 {ls : ab_L} {st : List Value} {w : ab_W} {x : Int32} : ab_Run ab_mt 81 22 ls (.int x :: st) w = ab_Run ab_mt 81 24 (ab_l1 ls 8 (.int x)) st w := E_stori (n := 2) rfl
theorem e_81_24 {ls : ab_L} {st : List Value} {w : ab_W} (h : ab_isI (ls 7) = true) : ab_Run ab_mt 81 24 ls st w = ab_Run ab_mt 81 26 ls (ab_gv (ls 7) :: st) w := E_loadi (n := 2) rfl h
theorem e_81_26 {ls : ab_L} {st : List Value} {w : ab_W} {x : Int32} : ab_Run ab_mt 81 26 ls (.int x :: st) w = if x = 0 then ab_Run ab_mt 81 29 ls st w else ab_Run ab_mt 81 40 ls st w := E_if_ne rfl
theorem e_81_29 {ls : ab_L} {st : List Value} {w : ab_W} : ab_Run ab_mt 81 29 ls st w = ab_Run ab_mt 81 30 ls (.int (nI 1) :: st) w := E_push (n := 1) rfl
theorem e_81_30 {ls : ab_L} {st : List Value} {w : ab_W} (h : ab_isI (ls 2) = true) : ab_Run ab_mt 81 30 ls st w = ab_Run ab_mt 81 31 ls (ab_gv (ls 2) :: st) w := E_loadi (n := 1) rfl h
theorem e_81_31 {ls : ab_L} {st : List Value} {w : ab_W} : ab_Run ab_mt 81 31 ls st w = ab_Run ab_mt 81 33 ls (.int (nI 12) :: st) w := E_push (n := 2) rfl
theorem e_81_33 {ls : ab_L} {st : List Value} {w : ab_W} {v0 v1 : Value} (h1 : ab_recv ab_mt 64 [v0, v1] w.2 = true) (h8 : ab_w8 st = true) : ab_Run ab_mt 81 33 ls (v1 :: v0 :: st) w = ab_aft 64 81 33 ls st (ab_Cl 64 [v0, v1] w) := E_call2 rfl h1 h8
theorem e_81_36 {ls : ab_L} {st : List Value} {w : ab_W} {x y : Int32} : ab_Run ab_mt 81 36 ls (.int y :: .int x :: st) w = ab_Run ab_mt 81 37 ls (.int (x + y) :: st) w := E_ib (f := fun x y => x + y) rfl
theorem e_81_37 {ls : ab_L} {st : List Value} {w : ab_W} : ab_Run ab_mt 81 37 ls st w = ab_Run ab_mt 81 114 ls st w := E_goto rfl
theorem e_81_40 {ls : ab_L} {st : List Value} {w : ab_W} (h : ab_isI (ls 7) = true) : ab_Run ab_mt 81 40 ls st w = ab_Run ab_mt 81 42 ls (ab_gv (ls 7) :: st) w := E_loadi (n := 2) rfl h
theorem e_81_42 {ls : ab_L} {st : List Value} {w : ab_W} : ab_Run ab_mt 81 42 ls st w = ab_Run ab_mt 81 43 ls (.int (nI 1) :: st) w := E_push (n := 1) rfl
theorem e_81_43 {ls : ab_L} {st : List Value} {w : ab_W} {x y : Int32} : ab_Run ab_mt 81 43 ls (.int y :: .int x :: st) w = if x = y then ab_Run ab_mt 81 46 ls st w else ab_Run ab_mt 81 57 ls st w := E_ic_ne rfl
theorem e_81_46 {ls : ab_L} {st : List Value} {w : ab_W} : ab_Run ab_mt 81 46 ls st w = ab_Run ab_mt 81 47 ls (.int (nI 1) :: st) w := E_push (n := 1) rfl
theorem e_81_47 {ls : ab_L} {st : List Value} {w : ab_W} (h : ab_isI (ls 2) = true) : ab_Run ab_mt 81 47 ls st w = ab_Run ab_mt 81 48 ls (ab_gv (ls 2) :: st) w := E_loadi (n := 1) rfl h
theorem e_81_48 {ls : ab_L} {st : List Value} {w : ab_W} : ab_Run ab_mt 81 48 ls st w = ab_Run ab_mt 81 50 ls (.int (nI 8) :: st) w := E_push (n := 2) rfl
theorem e_81_50 {ls : ab_L} {st : List Value} {w : ab_W} {v0 v1 : Value} (h1 : ab_recv ab_mt 64 [v0, v1] w.2 = true) (h8 : ab_w8 st = true) : ab_Run ab_mt 81 50 ls (v1 :: v0 :: st) w = ab_aft 64 81 50 ls st (ab_Cl 64 [v0, v1] w) := E_call2 rfl h1 h8
theorem e_81_53 {ls : ab_L} {st : List Value} {w : ab_W} {x y : Int32} : ab_Run ab_mt 81 53 ls (.int y :: .int x :: st) w = ab_Run ab_mt 81 54 ls (.int (x + y) :: st) w := E_ib (f := fun x y => x + y) rfl
theorem e_81_54 {ls : ab_L} {st : List Value} {w : ab_W} : ab_Run ab_mt 81 54 ls st w = ab_Run ab_mt 81 114 ls st w := E_goto rfl
theorem e_81_57 {ls : ab_L} {st : List Value} {w : ab_W} (h : ab_isI (ls 7) = true) : ab_Run ab_mt 81 57 ls st w = ab_Run ab_mt 81 59 ls (ab_gv (ls 7) :: st) w := E_loadi (n := 2) rfl h
theorem e_81_59 {ls : ab_L} {st : List Value} {w : ab_W} : ab_Run ab_mt 81 59 ls st w = ab_Run ab_mt 81 60 ls (.int (nI 2) :: st) w := E_push (n := 1) rfl
theorem e_81_60 {ls : ab_L} {st : List Value} {w : ab_W} {x y : Int32} : ab_Run ab_mt 81 60 ls (.int y :: .int x :: st) w = if x = y then ab_Run ab_mt 81 63 ls st w else ab_Run ab_mt 81 91 ls st w := E_ic_ne rfl
theorem e_81_63 {ls : ab_L} {st : List Value} {w : ab_W} (h : ab_isI (ls 2) = true) : ab_Run ab_mt 81 63 ls st w = ab_Run ab_mt 81 64 ls (ab_gv (ls 2) :: st) w := E_loadi (n := 1) rfl h
theorem e_81_64 {ls : ab_L} {st : List Value} {w : ab_W} : ab_Run ab_mt 81 64 ls st w = ab_Run ab_mt 81 66 ls (.int (nI 20) :: st) w := E_push (n := 2) rfl
theorem e_81_66 {ls : ab_L} {st : List Value} {w : ab_W} {x y : Int32} : ab_Run ab_mt 81 66 ls (.int y :: .int x :: st) w = ab_Run ab_mt 81 67 ls (.int (x >>> (y &&& 31)) :: st) w := E_ib (f := fun x y => x >>> (y &&& 31)) rfl
theorem e_81_67 {ls : ab_L} {st : List Value} {w : ab_W} : ab_Run ab_mt 81 67 ls st w = ab_Run ab_mt 81 68 ls (.int (nI 4) :: st) w := E_push (n := 1) rfl
theorem e_81_68 {ls : ab_L} {st : List Value} {w : ab_W} {v0 v1 : Value} (h1 : ab_recv ab_mt 64 [v0, v1] w.2 = true) (h8 : ab_w8 st = true) : ab_Run ab_mt 81 68 ls (v1 :: v0 :: st) w = ab_aft 64 81 68 ls st (ab_Cl 64 [v0, v1] w) := E_call2 rfl h1 h8
theorem e_81_71 {ls : ab_L} {st : List Value} {w : ab_W} {x : Int32} : ab_Run ab_mt 81 71 ls (.int x :: st) w = if x = 0 then ab_Run ab_mt 81 74 ls st w else ab_Run ab_mt 81 78 ls st w := E_if_ne rfl
theorem e_81_74 {ls : ab_L} {st : List Value} {w : ab_W} : ab_Run ab_mt 81 74 ls st w = ab_Run ab_mt 81 75 ls (.int (nI 0) :: st) w := E_push (n := 1) rfl
theorem e_81_75 {ls : ab_L} {st : List Value} {w : ab_W} : ab_Run ab_mt 81 75 ls st w = ab_Run ab_mt 81 114 ls st w := E_goto rfl
theorem e_81_78 {ls : ab_L} {st : List Value} {w : ab_W} : ab_Run ab_mt 81 78 ls st w = ab_Run ab_mt 81 80 ls (.int (nI 100) :: st) w := E_push (n := 2) rfl
theorem e_81_80 {ls : ab_L} {st : List Value} {w : ab_W} (h : ab_isI (ls 2) = true) : ab_Run ab_mt 81 80 ls st w = ab_Run ab_mt 81 81 ls (ab_gv (ls 2) :: st) w := E_loadi (n := 1) rfl h
theorem e_81_81 {ls : ab_L} {st : List Value} {w : ab_W} : ab_Run ab_mt 81 81 ls st w = ab_Run ab_mt 81 84 ls (.int (nI 9000) :: st) w := E_push (n := 3) rfl
theorem e_81_84 {ls : ab_L} {st : List Value} {w : ab_W} {v0 v1 : Value} (h1 : ab_recv ab_mt 64 [v0, v1] w.2 = true) (h8 : ab_w8 st = true) : ab_Run ab_mt 81 84 ls (v1 :: v0 :: st) w = ab_aft 64 81 84 ls st (ab_Cl 64 [v0, v1] w) := E_call2 rfl h1 h8
theorem e_81_87 {ls : ab_L} {st : List Value} {w : ab_W} {x y : Int32} : ab_Run ab_mt 81 87 ls (.int y :: .int x :: st) w = ab_Run ab_mt 81 88 ls (.int (x + y) :: st) w := E_ib (f := fun x y => x + y) rfl
theorem e_81_88 {ls : ab_L} {st : List Value} {w : ab_W} : ab_Run ab_mt 81 88 ls st w = ab_Run ab_mt 81 114 ls st w := E_goto rfl
theorem e_81_91 {ls : ab_L} {st : List Value} {w : ab_W} (h : ab_isI (ls 7) = true) : ab_Run ab_mt 81 91 ls st w = ab_Run ab_mt 81 93 ls (ab_gv (ls 7) :: st) w := E_loadi (n := 2) rfl h
theorem e_81_93 {ls : ab_L} {st : List Value} {w : ab_W} : ab_Run ab_mt 81 93 ls st w = ab_Run ab_mt 81 94 ls (.int (nI 3) :: st) w := E_push (n := 1) rfl
theorem e_81_94 {ls : ab_L} {st : List Value} {w : ab_W} {x y : Int32} : ab_Run ab_mt 81 94 ls (.int y :: .int x :: st) w = if x = y then ab_Run ab_mt 81 97 ls st w else ab_Run ab_mt 81 107 ls st w := E_ic_ne rfl
theorem e_81_97 {ls : ab_L} {st : List Value} {w : ab_W} (h : ab_isI (ls 2) = true) : ab_Run ab_mt 81 97 ls st w = ab_Run ab_mt 81 98 ls (ab_gv (ls 2) :: st) w := E_loadi (n := 1) rfl h
theorem e_81_98 {ls : ab_L} {st : List Value} {w : ab_W} : ab_Run ab_mt 81 98 ls st w = ab_Run ab_mt 81 101 ls (.int (nI 2500) :: st) w := E_push (n := 3) rfl
theorem e_81_101 {ls : ab_L} {st : List Value} {w : ab_W} {v0 v1 : Value} (h1 : ab_recv ab_mt 64 [v0, v1] w.2 = true) (h8 : ab_w8 st = true) : ab_Run ab_mt 81 101 ls (v1 :: v0 :: st) w = ab_aft 64 81 101 ls st (ab_Cl 64 [v0, v1] w) := E_call2 rfl h1 h8
theorem e_81_104 {ls : ab_L} {st : List Value} {w : ab_W} : ab_Run ab_mt 81 104 ls st w = ab_Run ab_mt 81 114 ls st w := E_goto rfl
theorem e_81_107 {ls : ab_L} {st : List Value} {w : ab_W} (h : ab_isI (ls 2) = true) : ab_Run ab_mt 81 107 ls st w = ab_Run ab_mt 81 108 ls (ab_gv (ls 2) :: st) w := E_loadi (n := 1) rfl h
theorem e_81_108 {ls : ab_L} {st : List Value} {w : ab_W} : ab_Run ab_mt 81 108 ls st w = ab_Run ab_mt 81 111 ls (.int (nI 4096) :: st) w := E_push (n := 3) rfl
theorem e_81_111 {ls : ab_L} {st : List Value} {w : ab_W} {v0 v1 : Value} (h1 : ab_recv ab_mt 64 [v0, v1] w.2 = true) (h8 : ab_w8 st = true) : ab_Run ab_mt 81 111 ls (v1 :: v0 :: st) w = ab_aft 64 81 111 ls st (ab_Cl 64 [v0, v1] w) := E_call2 rfl h1 h8
theorem e_81_114 {ls : ab_L} {st : List Value} {w : ab_W} {x : Int32} : ab_Run ab_mt 81 114 ls (.int x :: st) w = ab_Run ab_mt 81 116 (ab_l1 ls 9 (.int x)) st w := E_stori (n := 2) rfl
theorem e_81_116 {ls : ab_L} {st : List Value} {w : ab_W} (h : ab_isR (ls 4) = true) : ab_Run ab_mt 81 116 ls st w = ab_Run ab_mt 81 118 ls (ab_gv (ls 4) :: st) w := E_loadr (n := 2) rfl h
theorem e_81_118 {ls : ab_L} {st : List Value} {w : ab_W} (h : ab_isI (ls 8) = true) : ab_Run ab_mt 81 118 ls st w = ab_Run ab_mt 81 120 ls (ab_gv (ls 8) :: st) w := E_loadi (n := 2) rfl h
theorem e_81_120 {ls : ab_L} {st : List Value} {w : ab_W} (h : ab_isI (ls 7) = true) : ab_Run ab_mt 81 120 ls st w = ab_Run ab_mt 81 122 ls (ab_gv (ls 7) :: st) w := E_loadi (n := 2) rfl h
theorem e_81_122 {ls : ab_L} {st : List Value} {w : ab_W} {x y : Int32} : ab_Run ab_mt 81 122 ls (.int y :: .int x :: st) w = ab_Run ab_mt 81 123 ls (.int (x + y) :: st) w := E_ib (f := fun x y => x + y) rfl
theorem e_81_123 {ls : ab_L} {st : List Value} {w : ab_W} {a : Nat} {i : Int32} (h : ab_inI i (w.2 a) = true) : ab_Run ab_mt 81 123 ls (.int i :: .ref a :: st) w = ab_Run ab_mt 81 124 ls (.int (ab_aI i.toNatClampNeg (w.2 a)) :: st) w := E_iald rfl h
theorem e_81_124 {ls : ab_L} {st : List Value} {w : ab_W} {x : Int32} : ab_Run ab_mt 81 124 ls (.int x :: st) w = ab_Run ab_mt 81 126 (ab_l1 ls 10 (.int x)) st w := E_stori (n := 2) rfl
theorem e_81_126 {ls : ab_L} {st : List Value} {w : ab_W} (h : ab_isR (ls 4) = true) : ab_Run ab_mt 81 126 ls st w = ab_Run ab_mt 81 128 ls (ab_gv (ls 4) :: st) w := E_loadr (n := 2) rfl h
theorem e_81_128 {ls : ab_L} {st : List Value} {w : ab_W} (h : ab_isI (ls 8) = true) : ab_Run ab_mt 81 128 ls st w = ab_Run ab_mt 81 130 ls (ab_gv (ls 8) :: st) w := E_loadi (n := 2) rfl h
theorem e_81_130 {ls : ab_L} {st : List Value} {w : ab_W} (h : ab_isI (ls 7) = true) : ab_Run ab_mt 81 130 ls st w = ab_Run ab_mt 81 132 ls (ab_gv (ls 7) :: st) w := E_loadi (n := 2) rfl h
theorem e_81_132 {ls : ab_L} {st : List Value} {w : ab_W} {x y : Int32} : ab_Run ab_mt 81 132 ls (.int y :: .int x :: st) w = ab_Run ab_mt 81 133 ls (.int (x + y) :: st) w := E_ib (f := fun x y => x + y) rfl
theorem e_81_133 {ls : ab_L} {st : List Value} {w : ab_W} (h : ab_isI (ls 9) = true) : ab_Run ab_mt 81 133 ls st w = ab_Run ab_mt 81 135 ls (ab_gv (ls 9) :: st) w := E_loadi (n := 2) rfl h
theorem e_81_135 {ls : ab_L} {st : List Value} {w : ab_W} {a : Nat} {i x : Int32} (h : ab_inW i (w.2 a) = true) : ab_Run ab_mt 81 135 ls (.int x :: .int i :: .ref a :: st) w = ab_Run ab_mt 81 136 ls st (w.1, ab_up w.2 a (ab_sI i.toNatClampNeg x (w.2 a))) := E_iast rfl h
theorem e_81_136 {ls : ab_L} {st : List Value} {w : ab_W} (h : ab_isR (ls 4) = true) : ab_Run ab_mt 81 136 ls st w = ab_Run ab_mt 81 138 ls (ab_gv (ls 4) :: st) w := E_loadr (n := 2) rfl h
theorem e_81_138 {ls : ab_L} {st : List Value} {w : ab_W} (h : ab_isI (ls 8) = true) : ab_Run ab_mt 81 138 ls st w = ab_Run ab_mt 81 140 ls (ab_gv (ls 8) :: st) w := E_loadi (n := 2) rfl h
theorem e_81_140 {ls : ab_L} {st : List Value} {w : ab_W} : ab_Run ab_mt 81 140 ls st w = ab_Run ab_mt 81 141 ls (.int (nI 4) :: st) w := E_push (n := 1) rfl
theorem e_81_141 {ls : ab_L} {st : List Value} {w : ab_W} {x y : Int32} : ab_Run ab_mt 81 141 ls (.int y :: .int x :: st) w = ab_Run ab_mt 81 142 ls (.int (x + y) :: st) w := E_ib (f := fun x y => x + y) rfl
theorem e_81_142 {ls : ab_L} {st : List Value} {w : ab_W} (h : ab_isR (ls 4) = true) : ab_Run ab_mt 81 142 ls st w = ab_Run ab_mt 81 144 ls (ab_gv (ls 4) :: st) w := E_loadr (n := 2) rfl h
theorem e_81_144 {ls : ab_L} {st : List Value} {w : ab_W} (h : ab_isI (ls 8) = true) : ab_Run ab_mt 81 144 ls st w = ab_Run ab_mt 81 146 ls (ab_gv (ls 8) :: st) w := E_loadi (n := 2) rfl h
theorem e_81_146 {ls : ab_L} {st : List Value} {w : ab_W} : ab_Run ab_mt 81 146 ls st w = ab_Run ab_mt 81 147 ls (.int (nI 4) :: st) w := E_push (n := 1) rfl
theorem e_81_147 {ls : ab_L} {st : List Value} {w : ab_W} {x y : Int32} : ab_Run ab_mt 81 147 ls (.int y :: .int x :: st) w = ab_Run ab_mt 81 148 ls (.int (x + y) :: st) w := E_ib (f := fun x y => x + y) rfl
theorem e_81_148 {ls : ab_L} {st : List Value} {w : ab_W} {a : Nat} {i : Int32} (h : ab_inI i (w.2 a) = true) : ab_Run ab_mt 81 148 ls (.int i :: .ref a :: st) w = ab_Run ab_mt 81 149 ls (.int (ab_aI i.toNatClampNeg (w.2 a)) :: st) w := E_iald rfl h
theorem e_81_149 {ls : ab_L} {st : List Value} {w : ab_W} : ab_Run ab_mt 81 149 ls st w = ab_Run ab_mt 81 150 ls (.int (nI 1) :: st) w := E_push (n := 1) rfl
theorem e_81_150 {ls : ab_L} {st : List Value} {w : ab_W} (h : ab_isR (ls 4) = true) : ab_Run ab_mt 81 150 ls st w = ab_Run ab_mt 81 152 ls (ab_gv (ls 4) :: st) w := E_loadr (n := 2) rfl h
theorem e_81_152 {ls : ab_L} {st : List Value} {w : ab_W} (h : ab_isI (ls 8) = true) : ab_Run ab_mt 81 152 ls st w = ab_Run ab_mt 81 154 ls (ab_gv (ls 8) :: st) w := E_loadi (n := 2) rfl h
theorem e_81_154 {ls : ab_L} {st : List Value} {w : ab_W} {a : Nat} {i : Int32} (h : ab_inI i (w.2 a) = true) : ab_Run ab_mt 81 154 ls (.int i :: .ref a :: st) w = ab_Run ab_mt 81 155 ls (.int (ab_aI i.toNatClampNeg (w.2 a)) :: st) w := E_iald rfl h
theorem e_81_155 {ls : ab_L} {st : List Value} {w : ab_W} {x y : Int32} : ab_Run ab_mt 81 155 ls (.int y :: .int x :: st) w = ab_Run ab_mt 81 156 ls (.int (x <<< (y &&& 31)) :: st) w := E_ib (f := fun x y => x <<< (y &&& 31)) rfl
theorem e_81_156 {ls : ab_L} {st : List Value} {w : ab_W} {x y : Int32} (h : ¬ y = 0) : ab_Run ab_mt 81 156 ls (.int y :: .int x :: st) w = ab_Run ab_mt 81 157 ls (.int (x - x / y * y) :: st) w := E_idv (f := fun x y => x - x / y * y) rfl h
theorem e_81_157 {ls : ab_L} {st : List Value} {w : ab_W} {a : Nat} {i x : Int32} (h : ab_inW i (w.2 a) = true) : ab_Run ab_mt 81 157 ls (.int x :: .int i :: .ref a :: st) w = ab_Run ab_mt 81 158 ls st (w.1, ab_up w.2 a (ab_sI i.toNatClampNeg x (w.2 a))) := E_iast rfl h
theorem e_81_158 {ls : ab_L} {st : List Value} {w : ab_W} (h : ab_isR (ls 3) = true) : ab_Run ab_mt 81 158 ls st w = ab_Run ab_mt 81 159 ls (ab_gv (ls 3) :: st) w := E_loadr (n := 1) rfl h
theorem e_81_159 {ls : ab_L} {st : List Value} {w : ab_W} (h : ab_isR (ls 4) = true) : ab_Run ab_mt 81 159 ls st w = ab_Run ab_mt 81 161 ls (ab_gv (ls 4) :: st) w := E_loadr (n := 2) rfl h
theorem e_81_161 {ls : ab_L} {st : List Value} {w : ab_W} (h : ab_isR (ls 5) = true) : ab_Run ab_mt 81 161 ls st w = ab_Run ab_mt 81 163 ls (ab_gv (ls 5) :: st) w := E_loadr (n := 2) rfl h
theorem e_81_163 {ls : ab_L} {st : List Value} {w : ab_W} {v0 v1 v2 : Value} (h1 : ab_recv ab_mt 75 [v0, v1, v2] w.2 = true) (h8 : ab_w8 st = true) : ab_Run ab_mt 81 163 ls (v2 :: v1 :: v0 :: st) w = ab_aft 75 81 163 ls st (ab_Cl 75 [v0, v1, v2] w) := E_call3 rfl h1 h8
theorem e_81_166 {ls : ab_L} {st : List Value} {w : ab_W} (h : ab_isR (ls 0) = true) : ab_Run ab_mt 81 166 ls st w = ab_Run ab_mt 81 167 ls (ab_gv (ls 0) :: st) w := E_loadr (n := 1) rfl h
theorem e_81_167 {ls : ab_L} {st : List Value} {w : ab_W} (h : ab_isI (ls 6) = true) : ab_Run ab_mt 81 167 ls st w = ab_Run ab_mt 81 169 ls (ab_gv (ls 6) :: st) w := E_loadi (n := 2) rfl h
theorem e_81_169 {ls : ab_L} {st : List Value} {w : ab_W} (h : ab_isI (ls 7) = true) : ab_Run ab_mt 81 169 ls st w = ab_Run ab_mt 81 171 ls (ab_gv (ls 7) :: st) w := E_loadi (n := 2) rfl h
theorem e_81_171 {ls : ab_L} {st : List Value} {w : ab_W} (h : ab_isI (ls 9) = true) : ab_Run ab_mt 81 171 ls st w = ab_Run ab_mt 81 173 ls (ab_gv (ls 9) :: st) w := E_loadi (n := 2) rfl h
theorem e_81_173 {ls : ab_L} {st : List Value} {w : ab_W} {v0 v1 v2 v3 : Value} (h1 : ab_recv ab_mt 2 [v0, v1, v2, v3] w.2 = true) (h8 : ab_w8 st = true) : ab_Run ab_mt 81 173 ls (v3 :: v2 :: v1 :: v0 :: st) w = ab_aft 2 81 173 ls st (ab_Cl 2 [v0, v1, v2, v3] w) := E_call4 rfl h1 h8
theorem e_81_176 {ls : ab_L} {st : List Value} {w : ab_W} (h : ab_isI (ls 10) = true) : ab_Run ab_mt 81 176 ls st w = ab_Run ab_mt 81 178 ls (ab_gv (ls 10) :: st) w := E_loadi (n := 2) rfl h
theorem e_81_178 {ls : ab_L} {st : List Value} {w : ab_W} {x y : Int32} : ab_Run ab_mt 81 178 ls (.int y :: .int x :: st) w = if x = y then ab_Run ab_mt 81 181 ls st w else ab_Run ab_mt 81 185 ls st w := E_ic_ne rfl
theorem e_81_181 {ls : ab_L} {st : List Value} {w : ab_W} : ab_Run ab_mt 81 181 ls st w = ab_Run ab_mt 81 182 ls (.int (nI 1) :: st) w := E_push (n := 1) rfl
theorem e_81_182 {ls : ab_L} {st : List Value} {w : ab_W} : ab_Run ab_mt 81 182 ls st w = ab_Run ab_mt 81 186 ls st w := E_goto rfl
theorem e_81_185 {ls : ab_L} {st : List Value} {w : ab_W} : ab_Run ab_mt 81 185 ls st w = ab_Run ab_mt 81 186 ls (.int (nI 0) :: st) w := E_push (n := 1) rfl
theorem e_81_186 {ls : ab_L} {w : ab_W} {x : Int32} (h : ab_fitr 2 (.int x) = true) : ab_Run ab_mt 81 186 ls [.int x] w = some (.inl (some (.int x)), w) := E_retz rfl h
theorem rv_81 {σ : ab_S} {x0 : Nat} {x1 : Int32} {x2 : Int32} {x3 : Nat} {x4 : Nat} {x5 : Nat} : ab_recv ab_mt 81 [.ref x0, .int x1, .int x2, .ref x3, .ref x4, .ref x5] σ = true := rfl
theorem x_81_173 {ls : ab_L} {rest : List Value} {E : Nat} {w : ab_W} : ab_aft 2 81 173 ls rest (some (.inr E, w)) = some (.inr E, w) := ab_aft_x rfl rfl (by unfold ab_hand; rfl)
set_option maxRecDepth 30000 in
theorem e_82_0 {ls : ab_L} {st : List Value} {w : ab_W} (h : ab_isR (ls 2) = true) : ab_Run ab_mt 82 0 ls st w = ab_Run ab_mt 82 1 ls (ab_gv (ls 2) :: st) w := E_loadr (n := 1) rfl h
set_option maxRecDepth 30000 in
theorem e_82_1 {ls : ab_L} {st : List Value} {w : ab_W} : ab_Run ab_mt 82 1 ls st w = ab_Run ab_mt 82 2 ls (.int (nI 0) :: st) w := E_push (n := 1) rfl
set_option maxRecDepth 30000 in
theorem e_82_2 {ls : ab_L} {st : List Value} {w : ab_W} {a : Nat} {i : Int32} (h : ab_inI i (w.2 a) = true) : ab_Run ab_mt 82 2 ls (.int i :: .ref a :: st) w = ab_Run ab_mt 82 3 ls (.int (ab_aI i.toNatClampNeg (w.2 a)) :: st) w := E_iald rfl h
set_option maxRecDepth 30000 in
theorem e_82_3 {ls : ab_L} {st : List Value} {w : ab_W} (h : ab_isR (ls 3) = true) : ab_Run ab_mt 82 3 ls st w = ab_Run ab_mt 82 4 ls (ab_gv (ls 3) :: st) w := E_loadr (n := 1) rfl h
set_option maxRecDepth 30000 in
theorem e_82_4 {ls : ab_L} {st : List Value} {w : ab_W} {v0 v1 : Value} (h1 : ab_recv ab_mt 65 [v0, v1] w.2 = true) (h8 : ab_w8 st = true) : ab_Run ab_mt 82 4 ls (v1 :: v0 :: st) w = ab_aft 65 82 4 ls st (ab_Cl 65 [v0, v1] w) := E_call2 rfl h1 h8
set_option maxRecDepth 30000 in
theorem e_82_7 {ls : ab_L} {st : List Value} {w : ab_W} {x : Int32} : ab_Run ab_mt 82 7 ls (.int x :: st) w = ab_Run ab_mt 82 9 (ab_l1 ls 5 (.int x)) st w := E_stori (n := 2) rfl
set_option maxRecDepth 30000 in
theorem e_82_9 {ls : ab_L} {st : List Value} {w : ab_W} : ab_Run ab_mt 82 9 ls st w = ab_Run ab_mt 82 10 ls (.long (lN 0) :: st) w := E_push (n := 1) rfl
set_option maxRecDepth 30000 in
theorem e_82_10 {ls : ab_L} {st : List Value} {w : ab_W} {x : Int64} : ab_Run ab_mt 82 10 ls (.long x :: st) w = ab_Run ab_mt 82 12 (ab_l2 ls 6 (.long x)) st w := E_storl (n := 2) rfl
set_option maxRecDepth 30000 in
theorem e_82_12 {ls : ab_L} {st : List Value} {w : ab_W} : ab_Run ab_mt 82 12 ls st w = ab_Run ab_mt 82 13 ls (.long (lN 0) :: st) w := E_push (n := 1) rfl
set_option maxRecDepth 30000 in
theorem e_82_13 {ls : ab_L} {st : List Value} {w : ab_W} {x : Int64} : ab_Run ab_mt 82 13 ls (.long x :: st) w = ab_Run ab_mt 82 15 (ab_l2 ls 8 (.long x)) st w := E_storl (n := 2) rfl
set_option maxRecDepth 30000 in
theorem e_82_15 {ls : ab_L} {st : List Value} {w : ab_W} : ab_Run ab_mt 82 15 ls st w = ab_Run ab_mt 82 16 ls (.long (lN 0) :: st) w := E_push (n := 1) rfl
set_option maxRecDepth 30000 in
theorem e_82_16 {ls : ab_L} {st : List Value} {w : ab_W} {x : Int64} : ab_Run ab_mt 82 16 ls (.long x :: st) w = ab_Run ab_mt 82 18 (ab_l2 ls 10 (.long x)) st w := E_storl (n := 2) rfl
set_option maxRecDepth 30000 in
theorem e_82_18 {ls : ab_L} {st : List Value} {w : ab_W} : ab_Run ab_mt 82 18 ls st w = ab_Run ab_mt 82 19 ls (.long (lN 0) :: st) w := E_push (n := 1) rfl
set_option maxRecDepth 30000 in
theorem e_82_19 {ls : ab_L} {st : List Value} {w : ab_W} {x : Int64} : ab_Run ab_mt 82 19 ls (.long x :: st) w = ab_Run ab_mt 82 21 (ab_l2 ls 12 (.long x)) st w := E_storl (n := 2) rfl
set_option maxRecDepth 30000 in
theorem e_82_21 {ls : ab_L} {st : List Value} {w : ab_W} : ab_Run ab_mt 82 21 ls st w = ab_Run ab_mt 82 22 ls (.int (nI 0) :: st) w := E_push (n := 1) rfl
set_option maxRecDepth 30000 in
theorem e_82_22 {ls : ab_L} {st : List Value} {w : ab_W} {x : Int32} : ab_Run ab_mt 82 22 ls (.int x :: st) w = ab_Run ab_mt 82 24 (ab_l1 ls 14 (.int x)) st w := E_stori (n := 2) rfl
set_option maxRecDepth 30000 in
theorem e_82_24 {ls : ab_L} {st : List Value} {w : ab_W} (h : ab_isI (ls 14) = true) : ab_Run ab_mt 82 24 ls st w = ab_Run ab_mt 82 26 ls (ab_gv (ls 14) :: st) w := E_loadi (n := 2) rfl h
set_option maxRecDepth 30000 in
theorem e_82_26 {ls : ab_L} {st : List Value} {w : ab_W} (h : ab_isI (ls 5) = true) : ab_Run ab_mt 82 26 ls st w = ab_Run ab_mt 82 28 ls (ab_gv (ls 5) :: st) w := E_loadi (n := 2) rfl h
set_option maxRecDepth 30000 in
theorem e_82_28 {ls : ab_L} {st : List Value} {w : ab_W} {x y : Int32} : ab_Run ab_mt 82 28 ls (.int y :: .int x :: st) w = if y ≤ x then ab_Run ab_mt 82 295 ls st w else ab_Run ab_mt 82 31 ls st w := E_ic_ge rfl
set_option maxRecDepth 30000 in
theorem e_82_31 {ls : ab_L} {st : List Value} {w : ab_W} (h : ab_isI (ls 14) = true) : ab_Run ab_mt 82 31 ls st w = ab_Run ab_mt 82 33 ls (ab_gv (ls 14) :: st) w := E_loadi (n := 2) rfl h
set_option maxRecDepth 30000 in
theorem e_82_33 {ls : ab_L} {st : List Value} {w : ab_W} (h : ab_isR (ls 3) = true) : ab_Run ab_mt 82 33 ls st w = ab_Run ab_mt 82 34 ls (ab_gv (ls 3) :: st) w := E_loadr (n := 1) rfl h
set_option maxRecDepth 30000 in
theorem e_82_34 {ls : ab_L} {st : List Value} {w : ab_W} {v0 v1 : Value} (h1 : ab_recv ab_mt 66 [v0, v1] w.2 = true) (h8 : ab_w8 st = true) : ab_Run ab_mt 82 34 ls (v1 :: v0 :: st) w = ab_aft 66 82 34 ls st (ab_Cl 66 [v0, v1] w) := E_call2 rfl h1 h8
set_option maxRecDepth 30000 in
theorem e_82_37 {ls : ab_L} {st : List Value} {w : ab_W} {x : Int32} : ab_Run ab_mt 82 37 ls (.int x :: st) w = ab_Run ab_mt 82 39 (ab_l1 ls 15 (.int x)) st w := E_stori (n := 2) rfl
set_option maxRecDepth 30000 in
theorem e_82_39 {ls : ab_L} {st : List Value} {w : ab_W} (h : ab_isI (ls 14) = true) : ab_Run ab_mt 82 39 ls st w = ab_Run ab_mt 82 41 ls (ab_gv (ls 14) :: st) w := E_loadi (n := 2) rfl h
set_option maxRecDepth 30000 in
theorem e_82_41 {ls : ab_L} {st : List Value} {w : ab_W} (h : ab_isI (ls 15) = true) : ab_Run ab_mt 82 41 ls st w = ab_Run ab_mt 82 43 ls (ab_gv (ls 15) :: st) w := E_loadi (n := 2) rfl h
set_option maxRecDepth 30000 in
theorem e_82_43 {ls : ab_L} {st : List Value} {w : ab_W} (h : ab_isR (ls 3) = true) : ab_Run ab_mt 82 43 ls st w = ab_Run ab_mt 82 44 ls (ab_gv (ls 3) :: st) w := E_loadr (n := 1) rfl h
set_option maxRecDepth 30000 in
theorem e_82_44 {ls : ab_L} {st : List Value} {w : ab_W} {v0 v1 : Value} (h1 : ab_recv ab_mt 65 [v0, v1] w.2 = true) (h8 : ab_w8 st = true) : ab_Run ab_mt 82 44 ls (v1 :: v0 :: st) w = ab_aft 65 82 44 ls st (ab_Cl 65 [v0, v1] w) := E_call2 rfl h1 h8
set_option maxRecDepth 30000 in
theorem e_82_47 {ls : ab_L} {st : List Value} {w : ab_W} {x y : Int32} : ab_Run ab_mt 82 47 ls (.int y :: .int x :: st) w = ab_Run ab_mt 82 48 ls (.int (x - y) :: st) w := E_ib (f := fun x y => x - y) rfl
set_option maxRecDepth 30000 in
theorem e_82_48 {ls : ab_L} {st : List Value} {w : ab_W} {x : Int32} : ab_Run ab_mt 82 48 ls (.int x :: st) w = ab_Run ab_mt 82 50 (ab_l1 ls 16 (.int x)) st w := E_stori (n := 2) rfl
set_option maxRecDepth 30000 in
theorem e_82_50 {ls : ab_L} {st : List Value} {w : ab_W} (h : ab_isI (ls 14) = true) : ab_Run ab_mt 82 50 ls st w = ab_Run ab_mt 82 52 ls (ab_gv (ls 14) :: st) w := E_loadi (n := 2) rfl h
set_option maxRecDepth 30000 in
theorem e_82_52 {ls : ab_L} {st : List Value} {w : ab_W} (h : ab_isR (ls 2) = true) : ab_Run ab_mt 82 52 ls st w = ab_Run ab_mt 82 53 ls (ab_gv (ls 2) :: st) w := E_loadr (n := 1) rfl h
set_option maxRecDepth 30000 in
theorem e_82_53 {ls : ab_L} {st : List Value} {w : ab_W} (h : ab_isR (ls 3) = true) : ab_Run ab_mt 82 53 ls st w = ab_Run ab_mt 82 54 ls (ab_gv (ls 3) :: st) w := E_loadr (n := 1) rfl h
set_option maxRecDepth 30000 in
theorem e_82_54 {ls : ab_L} {st : List Value} {w : ab_W} (h : ab_isR (ls 4) = true) : ab_Run ab_mt 82 54 ls st w = ab_Run ab_mt 82 56 ls (ab_gv (ls 4) :: st) w := E_loadr (n := 2) rfl h
set_option maxRecDepth 30000 in
theorem e_82_56 {ls : ab_L} {st : List Value} {w : ab_W} {v0 v1 v2 v3 : Value} (h1 : ab_recv ab_mt 73 [v0, v1, v2, v3] w.2 = true) (h8 : ab_w8 st = true) : ab_Run ab_mt 82 56 ls (v3 :: v2 :: v1 :: v0 :: st) w = ab_aft 73 82 56 ls st (ab_Cl 73 [v0, v1, v2, v3] w) := E_call4 rfl h1 h8
set_option maxRecDepth 30000 in
theorem e_82_59 {ls : ab_L} {st : List Value} {w : ab_W} {x : Int64} : ab_Run ab_mt 82 59 ls (.long x :: st) w = ab_Run ab_mt 82 61 (ab_l2 ls 17 (.long x)) st w := E_storl (n := 2) rfl
set_option maxRecDepth 30000 in
theorem e_82_61 {ls : ab_L} {st : List Value} {w : ab_W} (h : ab_isI (ls 14) = true) : ab_Run ab_mt 82 61 ls st w = ab_Run ab_mt 82 63 ls (ab_gv (ls 14) :: st) w := E_loadi (n := 2) rfl h
set_option maxRecDepth 30000 in
theorem e_82_63 {ls : ab_L} {st : List Value} {w : ab_W} (h : ab_isR (ls 2) = true) : ab_Run ab_mt 82 63 ls st w = ab_Run ab_mt 82 64 ls (ab_gv (ls 2) :: st) w := E_loadr (n := 1) rfl h
set_option maxRecDepth 30000 in
theorem e_82_64 {ls : ab_L} {st : List Value} {w : ab_W} (h : ab_isR (ls 3) = true) : ab_Run ab_mt 82 64 ls st w = ab_Run ab_mt 82 65 ls (ab_gv (ls 3) :: st) w := E_loadr (n := 1) rfl h
set_option maxRecDepth 30000 in
theorem e_82_65 {ls : ab_L} {st : List Value} {w : ab_W} (h : ab_isR (ls 4) = true) : ab_Run ab_mt 82 65 ls st w = ab_Run ab_mt 82 67 ls (ab_gv (ls 4) :: st) w := E_loadr (n := 2) rfl h
set_option maxRecDepth 30000 in
theorem e_82_67 {ls : ab_L} {st : List Value} {w : ab_W} {v0 v1 v2 v3 : Value} (h1 : ab_recv ab_mt 72 [v0, v1, v2, v3] w.2 = true) (h8 : ab_w8 st = true) : ab_Run ab_mt 82 67 ls (v3 :: v2 :: v1 :: v0 :: st) w = ab_aft 72 82 67 ls st (ab_Cl 72 [v0, v1, v2, v3] w) := E_call4 rfl h1 h8
set_option maxRecDepth 30000 in
theorem e_82_70 {ls : ab_L} {st : List Value} {w : ab_W} {x : Int64} : ab_Run ab_mt 82 70 ls (.long x :: st) w = ab_Run ab_mt 82 72 (ab_l2 ls 19 (.long x)) st w := E_storl (n := 2) rfl
set_option maxRecDepth 30000 in
theorem e_82_72 {ls : ab_L} {st : List Value} {w : ab_W} (h : ab_isI (ls 1) = true) : ab_Run ab_mt 82 72 ls st w = ab_Run ab_mt 82 73 ls (ab_gv (ls 1) :: st) w := E_loadi (n := 1) rfl h
set_option maxRecDepth 30000 in
theorem e_82_73 {ls : ab_L} {st : List Value} {w : ab_W} (h : ab_isI (ls 14) = true) : ab_Run ab_mt 82 73 ls st w = ab_Run ab_mt 82 75 ls (ab_gv (ls 14) :: st) w := E_loadi (n := 2) rfl h
set_option maxRecDepth 30000 in
theorem e_82_75 {ls : ab_L} {st : List Value} {w : ab_W} : ab_Run ab_mt 82 75 ls st w = ab_Run ab_mt 82 77 ls (.int (nI 16) :: st) w := E_push (n := 2) rfl
set_option maxRecDepth 30000 in
theorem e_82_77 {ls : ab_L} {st : List Value} {w : ab_W} {x y : Int32} (h : ¬ y = 0) : ab_Run ab_mt 82 77 ls (.int y :: .int x :: st) w = ab_Run ab_mt 82 78 ls (.int (x - x / y * y) :: st) w := E_idv (f := fun x y => x - x / y * y) rfl h
set_option maxRecDepth 30000 in
theorem e_82_78 {ls : ab_L} {st : List Value} {w : ab_W} {x y : Int32} : ab_Run ab_mt 82 78 ls (.int y :: .int x :: st) w = ab_Run ab_mt 82 79 ls (.int (x >>> (y &&& 31)) :: st) w := E_ib (f := fun x y => x >>> (y &&& 31)) rfl
set_option maxRecDepth 30000 in
theorem e_82_79 {ls : ab_L} {st : List Value} {w : ab_W} (h : ab_isR (ls 3) = true) : ab_Run ab_mt 82 79 ls st w = ab_Run ab_mt 82 80 ls (ab_gv (ls 3) :: st) w := E_loadr (n := 1) rfl h
set_option maxRecDepth 30000 in
theorem e_82_80 {ls : ab_L} {st : List Value} {w : ab_W} : ab_Run ab_mt 82 80 ls st w = ab_Run ab_mt 82 81 ls (.int (nI 5) :: st) w := E_push (n := 1) rfl
set_option maxRecDepth 30000 in
theorem e_82_81 {ls : ab_L} {st : List Value} {w : ab_W} (h : ab_isI (ls 15) = true) : ab_Run ab_mt 82 81 ls st w = ab_Run ab_mt 82 83 ls (ab_gv (ls 15) :: st) w := E_loadi (n := 2) rfl h
set_option maxRecDepth 30000 in
theorem e_82_83 {ls : ab_L} {st : List Value} {w : ab_W} {x y : Int32} : ab_Run ab_mt 82 83 ls (.int y :: .int x :: st) w = ab_Run ab_mt 82 84 ls (.int (x * y) :: st) w := E_ib (f := fun x y => x * y) rfl
set_option maxRecDepth 30000 in
theorem e_82_84 {ls : ab_L} {st : List Value} {w : ab_W} : ab_Run ab_mt 82 84 ls st w = ab_Run ab_mt 82 85 ls (.int (nI 1) :: st) w := E_push (n := 1) rfl
set_option maxRecDepth 30000 in
theorem e_82_85 {ls : ab_L} {st : List Value} {w : ab_W} {x y : Int32} : ab_Run ab_mt 82 85 ls (.int y :: .int x :: st) w = ab_Run ab_mt 82 86 ls (.int (x + y) :: st) w := E_ib (f := fun x y => x + y) rfl
set_option maxRecDepth 30000 in
theorem e_82_86 {ls : ab_L} {st : List Value} {w : ab_W} {a : Nat} {i : Int32} (h : ab_inI i (w.2 a) = true) : ab_Run ab_mt 82 86 ls (.int i :: .ref a :: st) w = ab_Run ab_mt 82 87 ls (.int (ab_aI i.toNatClampNeg (w.2 a)) :: st) w := E_iald rfl h
set_option maxRecDepth 30000 in
theorem e_82_87 {ls : ab_L} {st : List Value} {w : ab_W} {v0 v1 : Value} (h1 : ab_recv ab_mt 64 [v0, v1] w.2 = true) (h8 : ab_w8 st = true) : ab_Run ab_mt 82 87 ls (v1 :: v0 :: st) w = ab_aft 64 82 87 ls st (ab_Cl 64 [v0, v1] w) := E_call2 rfl h1 h8
set_option maxRecDepth 30000 in
theorem e_82_90 {ls : ab_L} {st : List Value} {w : ab_W} {x : Int32} : ab_Run ab_mt 82 90 ls (.int x :: st) w = ab_Run ab_mt 82 92 (ab_l1 ls 21 (.int x)) st w := E_stori (n := 2) rfl
set_option maxRecDepth 30000 in
theorem e_82_92 {ls : ab_L} {st : List Value} {w : ab_W} (h : ab_isR (ls 0) = true) : ab_Run ab_mt 82 92 ls st w = ab_Run ab_mt 82 93 ls (ab_gv (ls 0) :: st) w := E_loadr (n := 1) rfl h
set_option maxRecDepth 30000 in
theorem e_82_93 {ls : ab_L} {st : List Value} {w : ab_W} (h : ab_isI (ls 14) = true) : ab_Run ab_mt 82 93 ls st w = ab_Run ab_mt 82 95 ls (ab_gv (ls 14) :: st) w := E_loadi (n := 2) rfl h
set_option maxRecDepth 30000 in
theorem e_82_95 {ls : ab_L} {st : List Value} {w : ab_W} : ab_Run ab_mt 82 95 ls st w = ab_Run ab_mt 82 96 ls (.int (nI 0) :: st) w := E_push (n := 1) rfl
set_option maxRecDepth 30000 in
theorem e_82_96 {ls : ab_L} {st : List Value} {w : ab_W} {v0 v1 v2 : Value} (h1 : ab_recv ab_mt 9 [v0, v1, v2] w.2 = true) (h8 : ab_w8 st = true) : ab_Run ab_mt 82 96 ls (v2 :: v1 :: v0 :: st) w = ab_aft 9 82 96 ls st (ab_Cl 9 [v0, v1, v2] w) := E_call3 rfl h1 h8
set_option maxRecDepth 30000 in
theorem e_82_99 {ls : ab_L} {st : List Value} {w : ab_W} (h : ab_isI (ls 15) = true) : ab_Run ab_mt 82 99 ls st w = ab_Run ab_mt 82 101 ls (ab_gv (ls 15) :: st) w := E_loadi (n := 2) rfl h
set_option maxRecDepth 30000 in
theorem e_82_101 {ls : ab_L} {st : List Value} {w : ab_W} {x : Int32} : ab_Run ab_mt 82 101 ls (.int x :: st) w = ab_Run ab_mt 82 102 ls (.long x.toInt64 :: st) w := E_i2l rfl
set_option maxRecDepth 30000 in
theorem e_82_102 {ls : ab_L} {st : List Value} {w : ab_W} {x y : Int64} : ab_Run ab_mt 82 102 ls (.long y :: .long x :: st) w = ab_Run ab_mt 82 103 ls (.int (lg_cmp x y) :: st) w := E_lcmp rfl
set_option maxRecDepth 30000 in
theorem e_82_103 {ls : ab_L} {st : List Value} {w : ab_W} {x : Int32} : ab_Run ab_mt 82 103 ls (.int x :: st) w = if x = 0 then ab_Run ab_mt 82 106 ls st w else ab_Run ab_mt 82 212 ls st w := E_if_ne rfl
set_option maxRecDepth 30000 in
theorem e_82_106 {ls : ab_L} {st : List Value} {w : ab_W} (h : ab_isR (ls 0) = true) : ab_Run ab_mt 82 106 ls st w = ab_Run ab_mt 82 107 ls (ab_gv (ls 0) :: st) w := E_loadr (n := 1) rfl h
set_option maxRecDepth 30000 in
theorem e_82_107 {ls : ab_L} {st : List Value} {w : ab_W} (h : ab_isI (ls 14) = true) : ab_Run ab_mt 82 107 ls st w = ab_Run ab_mt 82 109 ls (ab_gv (ls 14) :: st) w := E_loadi (n := 2) rfl h
set_option maxRecDepth 30000 in
theorem e_82_109 {ls : ab_L} {st : List Value} {w : ab_W} : ab_Run ab_mt 82 109 ls st w = ab_Run ab_mt 82 110 ls (.int (nI 1) :: st) w := E_push (n := 1) rfl
set_option maxRecDepth 30000 in
theorem e_82_110 {ls : ab_L} {st : List Value} {w : ab_W} {v0 v1 v2 : Value} (h1 : ab_recv ab_mt 9 [v0, v1, v2] w.2 = true) (h8 : ab_w8 st = true) : ab_Run ab_mt 82 110 ls (v2 :: v1 :: v0 :: st) w = ab_aft 9 82 110 ls st (ab_Cl 9 [v0, v1, v2] w) := E_call3 rfl h1 h8
set_option maxRecDepth 30000 in
theorem e_82_113 {ls : ab_L} {st : List Value} {w : ab_W} (h : ab_isI (ls 16) = true) : ab_Run ab_mt 82 113 ls st w = ab_Run ab_mt 82 115 ls (ab_gv (ls 16) :: st) w := E_loadi (n := 2) rfl h
set_option maxRecDepth 30000 in
theorem e_82_115 {ls : ab_L} {st : List Value} {w : ab_W} {x : Int32} : ab_Run ab_mt 82 115 ls (.int x :: st) w = ab_Run ab_mt 82 116 ls (.long x.toInt64 :: st) w := E_i2l rfl
set_option maxRecDepth 30000 in
theorem e_82_116 {ls : ab_L} {st : List Value} {w : ab_W} {x y : Int64} : ab_Run ab_mt 82 116 ls (.long y :: .long x :: st) w = ab_Run ab_mt 82 117 ls (.int (lg_cmp x y) :: st) w := E_lcmp rfl
set_option maxRecDepth 30000 in
theorem e_82_117 {ls : ab_L} {st : List Value} {w : ab_W} {x : Int32} : ab_Run ab_mt 82 117 ls (.int x :: st) w = if x = 0 then ab_Run ab_mt 82 120 ls st w else ab_Run ab_mt 82 212 ls st w := E_if_ne rfl
set_option maxRecDepth 30000 in
theorem e_82_120 {ls : ab_L} {st : List Value} {w : ab_W} (h : ab_isR (ls 0) = true) : ab_Run ab_mt 82 120 ls st w = ab_Run ab_mt 82 121 ls (ab_gv (ls 0) :: st) w := E_loadr (n := 1) rfl h
set_option maxRecDepth 30000 in
theorem e_82_121 {ls : ab_L} {st : List Value} {w : ab_W} (h : ab_isI (ls 14) = true) : ab_Run ab_mt 82 121 ls st w = ab_Run ab_mt 82 123 ls (ab_gv (ls 14) :: st) w := E_loadi (n := 2) rfl h
set_option maxRecDepth 30000 in
theorem e_82_123 {ls : ab_L} {st : List Value} {w : ab_W} : ab_Run ab_mt 82 123 ls st w = ab_Run ab_mt 82 124 ls (.int (nI 2) :: st) w := E_push (n := 1) rfl
set_option maxRecDepth 30000 in
theorem e_82_124 {ls : ab_L} {st : List Value} {w : ab_W} {v0 v1 v2 : Value} (h1 : ab_recv ab_mt 9 [v0, v1, v2] w.2 = true) (h8 : ab_w8 st = true) : ab_Run ab_mt 82 124 ls (v2 :: v1 :: v0 :: st) w = ab_aft 9 82 124 ls st (ab_Cl 9 [v0, v1, v2] w) := E_call3 rfl h1 h8
set_option maxRecDepth 30000 in
theorem e_82_127 {ls : ab_L} {st : List Value} {w : ab_W} (h : ab_isI (ls 14) = true) : ab_Run ab_mt 82 127 ls st w = ab_Run ab_mt 82 129 ls (ab_gv (ls 14) :: st) w := E_loadi (n := 2) rfl h
set_option maxRecDepth 30000 in
theorem e_82_129 {ls : ab_L} {st : List Value} {w : ab_W} (h : ab_isR (ls 2) = true) : ab_Run ab_mt 82 129 ls st w = ab_Run ab_mt 82 130 ls (ab_gv (ls 2) :: st) w := E_loadr (n := 1) rfl h
set_option maxRecDepth 30000 in
theorem e_82_130 {ls : ab_L} {st : List Value} {w : ab_W} (h : ab_isR (ls 4) = true) : ab_Run ab_mt 82 130 ls st w = ab_Run ab_mt 82 132 ls (ab_gv (ls 4) :: st) w := E_loadr (n := 2) rfl h
set_option maxRecDepth 30000 in
theorem e_82_132 {ls : ab_L} {st : List Value} {w : ab_W} {v0 v1 v2 : Value} (h1 : ab_recv ab_mt 67 [v0, v1, v2] w.2 = true) (h8 : ab_w8 st = true) : ab_Run ab_mt 82 132 ls (v2 :: v1 :: v0 :: st) w = ab_aft 67 82 132 ls st (ab_Cl 67 [v0, v1, v2] w) := E_call3 rfl h1 h8
set_option maxRecDepth 30000 in
theorem e_82_135 {ls : ab_L} {st : List Value} {w : ab_W} {x : Int32} : ab_Run ab_mt 82 135 ls (.int x :: st) w = ab_Run ab_mt 82 136 ls (.long x.toInt64 :: st) w := E_i2l rfl
set_option maxRecDepth 30000 in
theorem e_82_136 {ls : ab_L} {st : List Value} {w : ab_W} {x y : Int64} : ab_Run ab_mt 82 136 ls (.long y :: .long x :: st) w = ab_Run ab_mt 82 137 ls (.int (lg_cmp x y) :: st) w := E_lcmp rfl
set_option maxRecDepth 30000 in
theorem e_82_137 {ls : ab_L} {st : List Value} {w : ab_W} {x : Int32} : ab_Run ab_mt 82 137 ls (.int x :: st) w = if x = 0 then ab_Run ab_mt 82 140 ls st w else ab_Run ab_mt 82 212 ls st w := E_if_ne rfl
set_option maxRecDepth 30000 in
theorem e_82_140 {ls : ab_L} {st : List Value} {w : ab_W} (h : ab_isR (ls 0) = true) : ab_Run ab_mt 82 140 ls st w = ab_Run ab_mt 82 141 ls (ab_gv (ls 0) :: st) w := E_loadr (n := 1) rfl h
set_option maxRecDepth 30000 in
theorem e_82_141 {ls : ab_L} {st : List Value} {w : ab_W} (h : ab_isI (ls 14) = true) : ab_Run ab_mt 82 141 ls st w = ab_Run ab_mt 82 143 ls (ab_gv (ls 14) :: st) w := E_loadi (n := 2) rfl h
set_option maxRecDepth 30000 in
theorem e_82_143 {ls : ab_L} {st : List Value} {w : ab_W} : ab_Run ab_mt 82 143 ls st w = ab_Run ab_mt 82 144 ls (.int (nI 3) :: st) w := E_push (n := 1) rfl
set_option maxRecDepth 30000 in
theorem e_82_144 {ls : ab_L} {st : List Value} {w : ab_W} {v0 v1 v2 : Value} (h1 : ab_recv ab_mt 9 [v0, v1, v2] w.2 = true) (h8 : ab_w8 st = true) : ab_Run ab_mt 82 144 ls (v2 :: v1 :: v0 :: st) w = ab_aft 9 82 144 ls st (ab_Cl 9 [v0, v1, v2] w) := E_call3 rfl h1 h8
set_option maxRecDepth 30000 in
theorem e_82_147 {ls : ab_L} {st : List Value} {w : ab_W} (h : ab_isI (ls 14) = true) : ab_Run ab_mt 82 147 ls st w = ab_Run ab_mt 82 149 ls (ab_gv (ls 14) :: st) w := E_loadi (n := 2) rfl h
set_option maxRecDepth 30000 in
theorem e_82_149 {ls : ab_L} {st : List Value} {w : ab_W} : ab_Run ab_mt 82 149 ls st w = ab_Run ab_mt 82 150 ls (.int (nI 1) :: st) w := E_push (n := 1) rfl
set_option maxRecDepth 30000 in
theorem e_82_150 {ls : ab_L} {st : List Value} {w : ab_W} (h : ab_isR (ls 2) = true) : ab_Run ab_mt 82 150 ls st w = ab_Run ab_mt 82 151 ls (ab_gv (ls 2) :: st) w := E_loadr (n := 1) rfl h
set_option maxRecDepth 30000 in
theorem e_82_151 {ls : ab_L} {st : List Value} {w : ab_W} (h : ab_isR (ls 4) = true) : ab_Run ab_mt 82 151 ls st w = ab_Run ab_mt 82 153 ls (ab_gv (ls 4) :: st) w := E_loadr (n := 2) rfl h
set_option maxRecDepth 30000 in
theorem e_82_153 {ls : ab_L} {st : List Value} {w : ab_W} {v0 v1 v2 v3 : Value} (h1 : ab_recv ab_mt 68 [v0, v1, v2, v3] w.2 = true) (h8 : ab_w8 st = true) : ab_Run ab_mt 82 153 ls (v3 :: v2 :: v1 :: v0 :: st) w = ab_aft 68 82 153 ls st (ab_Cl 68 [v0, v1, v2, v3] w) := E_call4 rfl h1 h8
set_option maxRecDepth 30000 in
theorem e_82_156 {ls : ab_L} {st : List Value} {w : ab_W} {x y : Int64} : ab_Run ab_mt 82 156 ls (.long y :: .long x :: st) w = ab_Run ab_mt 82 157 ls (.int (lg_cmp x y) :: st) w := E_lcmp rfl
set_option maxRecDepth 30000 in
theorem e_82_157 {ls : ab_L} {st : List Value} {w : ab_W} {x : Int32} : ab_Run ab_mt 82 157 ls (.int x :: st) w = if x = 0 then ab_Run ab_mt 82 160 ls st w else ab_Run ab_mt 82 212 ls st w := E_if_ne rfl
set_option maxRecDepth 30000 in
theorem e_82_160 {ls : ab_L} {st : List Value} {w : ab_W} (h : ab_isR (ls 0) = true) : ab_Run ab_mt 82 160 ls st w = ab_Run ab_mt 82 161 ls (ab_gv (ls 0) :: st) w := E_loadr (n := 1) rfl h
set_option maxRecDepth 30000 in
theorem e_82_161 {ls : ab_L} {st : List Value} {w : ab_W} (h : ab_isI (ls 14) = true) : ab_Run ab_mt 82 161 ls st w = ab_Run ab_mt 82 163 ls (ab_gv (ls 14) :: st) w := E_loadi (n := 2) rfl h
set_option maxRecDepth 30000 in
theorem e_82_163 {ls : ab_L} {st : List Value} {w : ab_W} : ab_Run ab_mt 82 163 ls st w = ab_Run ab_mt 82 164 ls (.int (nI 4) :: st) w := E_push (n := 1) rfl
set_option maxRecDepth 30000 in
theorem e_82_164 {ls : ab_L} {st : List Value} {w : ab_W} {v0 v1 v2 : Value} (h1 : ab_recv ab_mt 9 [v0, v1, v2] w.2 = true) (h8 : ab_w8 st = true) : ab_Run ab_mt 82 164 ls (v2 :: v1 :: v0 :: st) w = ab_aft 9 82 164 ls st (ab_Cl 9 [v0, v1, v2] w) := E_call3 rfl h1 h8
set_option maxRecDepth 30000 in
theorem e_82_167 {ls : ab_L} {st : List Value} {w : ab_W} (h : ab_isL (ls 19) = true) (h2 : (ls 20).isNone = true) : ab_Run ab_mt 82 167 ls st w = ab_Run ab_mt 82 169 ls (ab_gv (ls 19) :: st) w := E_loadl (n := 2) rfl h h2
set_option maxRecDepth 30000 in
theorem e_82_169 {ls : ab_L} {st : List Value} {w : ab_W} {x y : Int64} : ab_Run ab_mt 82 169 ls (.long y :: .long x :: st) w = ab_Run ab_mt 82 170 ls (.int (lg_cmp x y) :: st) w := E_lcmp rfl
set_option maxRecDepth 30000 in
theorem e_82_170 {ls : ab_L} {st : List Value} {w : ab_W} {x : Int32} : ab_Run ab_mt 82 170 ls (.int x :: st) w = if x = 0 then ab_Run ab_mt 82 173 ls st w else ab_Run ab_mt 82 212 ls st w := E_if_ne rfl
set_option maxRecDepth 30000 in
theorem e_82_173 {ls : ab_L} {st : List Value} {w : ab_W} (h : ab_isR (ls 0) = true) : ab_Run ab_mt 82 173 ls st w = ab_Run ab_mt 82 174 ls (ab_gv (ls 0) :: st) w := E_loadr (n := 1) rfl h
set_option maxRecDepth 30000 in
theorem e_82_174 {ls : ab_L} {st : List Value} {w : ab_W} (h : ab_isI (ls 14) = true) : ab_Run ab_mt 82 174 ls st w = ab_Run ab_mt 82 176 ls (ab_gv (ls 14) :: st) w := E_loadi (n := 2) rfl h
set_option maxRecDepth 30000 in
theorem e_82_176 {ls : ab_L} {st : List Value} {w : ab_W} : ab_Run ab_mt 82 176 ls st w = ab_Run ab_mt 82 177 ls (.int (nI 5) :: st) w := E_push (n := 1) rfl
set_option maxRecDepth 30000 in
theorem e_82_177 {ls : ab_L} {st : List Value} {w : ab_W} {v0 v1 v2 : Value} (h1 : ab_recv ab_mt 9 [v0, v1, v2] w.2 = true) (h8 : ab_w8 st = true) : ab_Run ab_mt 82 177 ls (v2 :: v1 :: v0 :: st) w = ab_aft 9 82 177 ls st (ab_Cl 9 [v0, v1, v2] w) := E_call3 rfl h1 h8
set_option maxRecDepth 30000 in
theorem e_82_180 {ls : ab_L} {st : List Value} {w : ab_W} (h : ab_isL (ls 17) = true) (h2 : (ls 18).isNone = true) : ab_Run ab_mt 82 180 ls st w = ab_Run ab_mt 82 182 ls (ab_gv (ls 17) :: st) w := E_loadl (n := 2) rfl h h2
set_option maxRecDepth 30000 in
theorem e_82_182 {ls : ab_L} {st : List Value} {w : ab_W} {x y : Int64} : ab_Run ab_mt 82 182 ls (.long y :: .long x :: st) w = ab_Run ab_mt 82 183 ls (.int (lg_cmp x y) :: st) w := E_lcmp rfl
set_option maxRecDepth 30000 in
theorem e_82_183 {ls : ab_L} {st : List Value} {w : ab_W} {x : Int32} : ab_Run ab_mt 82 183 ls (.int x :: st) w = if x = 0 then ab_Run ab_mt 82 186 ls st w else ab_Run ab_mt 82 212 ls st w := E_if_ne rfl
set_option maxRecDepth 30000 in
theorem e_82_186 {ls : ab_L} {st : List Value} {w : ab_W} (h : ab_isR (ls 0) = true) : ab_Run ab_mt 82 186 ls st w = ab_Run ab_mt 82 187 ls (ab_gv (ls 0) :: st) w := E_loadr (n := 1) rfl h
set_option maxRecDepth 30000 in
theorem e_82_187 {ls : ab_L} {st : List Value} {w : ab_W} (h : ab_isI (ls 14) = true) : ab_Run ab_mt 82 187 ls st w = ab_Run ab_mt 82 189 ls (ab_gv (ls 14) :: st) w := E_loadi (n := 2) rfl h
set_option maxRecDepth 30000 in
theorem e_82_189 {ls : ab_L} {st : List Value} {w : ab_W} : ab_Run ab_mt 82 189 ls st w = ab_Run ab_mt 82 191 ls (.int (nI 6) :: st) w := E_push (n := 2) rfl
set_option maxRecDepth 30000 in
theorem e_82_191 {ls : ab_L} {st : List Value} {w : ab_W} {v0 v1 v2 : Value} (h1 : ab_recv ab_mt 9 [v0, v1, v2] w.2 = true) (h8 : ab_w8 st = true) : ab_Run ab_mt 82 191 ls (v2 :: v1 :: v0 :: st) w = ab_aft 9 82 191 ls st (ab_Cl 9 [v0, v1, v2] w) := E_call3 rfl h1 h8
set_option maxRecDepth 30000 in
theorem e_82_194 {ls : ab_L} {st : List Value} {w : ab_W} (h : ab_isR (ls 3) = true) : ab_Run ab_mt 82 194 ls st w = ab_Run ab_mt 82 195 ls (ab_gv (ls 3) :: st) w := E_loadr (n := 1) rfl h
set_option maxRecDepth 30000 in
theorem e_82_195 {ls : ab_L} {st : List Value} {w : ab_W} : ab_Run ab_mt 82 195 ls st w = ab_Run ab_mt 82 196 ls (.int (nI 5) :: st) w := E_push (n := 1) rfl
set_option maxRecDepth 30000 in
theorem e_82_196 {ls : ab_L} {st : List Value} {w : ab_W} (h : ab_isI (ls 15) = true) : ab_Run ab_mt 82 196 ls st w = ab_Run ab_mt 82 198 ls (ab_gv (ls 15) :: st) w := E_loadi (n := 2) rfl h
set_option maxRecDepth 30000 in
theorem e_82_198 {ls : ab_L} {st : List Value} {w : ab_W} {x y : Int32} : ab_Run ab_mt 82 198 ls (.int y :: .int x :: st) w = ab_Run ab_mt 82 199 ls (.int (x * y) :: st) w := E_ib (f := fun x y => x * y) rfl
set_option maxRecDepth 30000 in
theorem e_82_199 {ls : ab_L} {st : List Value} {w : ab_W} : ab_Run ab_mt 82 199 ls st w = ab_Run ab_mt 82 200 ls (.int (nI 4) :: st) w := E_push (n := 1) rfl
set_option maxRecDepth 30000 in
theorem e_82_200 {ls : ab_L} {st : List Value} {w : ab_W} {x y : Int32} : ab_Run ab_mt 82 200 ls (.int y :: .int x :: st) w = ab_Run ab_mt 82 201 ls (.int (x + y) :: st) w := E_ib (f := fun x y => x + y) rfl
set_option maxRecDepth 30000 in
theorem e_82_201 {ls : ab_L} {st : List Value} {w : ab_W} {a : Nat} {i : Int32} (h : ab_inI i (w.2 a) = true) : ab_Run ab_mt 82 201 ls (.int i :: .ref a :: st) w = ab_Run ab_mt 82 202 ls (.int (ab_aI i.toNatClampNeg (w.2 a)) :: st) w := E_iald rfl h
set_option maxRecDepth 30000 in
theorem e_82_202 {ls : ab_L} {st : List Value} {w : ab_W} (h : ab_isI (ls 16) = true) : ab_Run ab_mt 82 202 ls st w = ab_Run ab_mt 82 204 ls (ab_gv (ls 16) :: st) w := E_loadi (n := 2) rfl h
set_option maxRecDepth 30000 in
theorem e_82_204 {ls : ab_L} {st : List Value} {w : ab_W} {x y : Int32} : ab_Run ab_mt 82 204 ls (.int y :: .int x :: st) w = ab_Run ab_mt 82 205 ls (.int (x >>> (y &&& 31)) :: st) w := E_ib (f := fun x y => x >>> (y &&& 31)) rfl
set_option maxRecDepth 30000 in
theorem e_82_205 {ls : ab_L} {st : List Value} {w : ab_W} : ab_Run ab_mt 82 205 ls st w = ab_Run ab_mt 82 206 ls (.int (nI 1) :: st) w := E_push (n := 1) rfl
set_option maxRecDepth 30000 in
theorem e_82_206 {ls : ab_L} {st : List Value} {w : ab_W} {x y : Int32} : ab_Run ab_mt 82 206 ls (.int y :: .int x :: st) w = ab_Run ab_mt 82 207 ls (.int (x &&& y) :: st) w := E_ib (f := fun x y => x &&& y) rfl
set_option maxRecDepth 30000 in
theorem e_82_207 {ls : ab_L} {st : List Value} {w : ab_W} {x : Int32} : ab_Run ab_mt 82 207 ls (.int x :: st) w = ab_Run ab_mt 82 208 ls (.long x.toInt64 :: st) w := E_i2l rfl
set_option maxRecDepth 30000 in
theorem e_82_208 {ls : ab_L} {st : List Value} {w : ab_W} {x y : Int64} : ab_Run ab_mt 82 208 ls (.long y :: .long x :: st) w = ab_Run ab_mt 82 209 ls (.int (lg_cmp x y) :: st) w := E_lcmp rfl
set_option maxRecDepth 30000 in
theorem e_82_209 {ls : ab_L} {st : List Value} {w : ab_W} {x : Int32} : ab_Run ab_mt 82 209 ls (.int x :: st) w = if x = 0 then ab_Run ab_mt 82 214 ls st w else ab_Run ab_mt 82 212 ls st w := E_if_eq rfl
set_option maxRecDepth 30000 in
theorem e_82_212 {ls : ab_L} {st : List Value} {w : ab_W} : ab_Run ab_mt 82 212 ls st w = ab_Run ab_mt 82 213 ls (.int (nI 0) :: st) w := E_push (n := 1) rfl
set_option maxRecDepth 30000 in
theorem e_82_213 {ls : ab_L} {w : ab_W} {x : Int32} (h : ab_fitr 2 (.int x) = true) : ab_Run ab_mt 82 213 ls [.int x] w = some (.inl (some (.int x)), w) := E_retz rfl h
set_option maxRecDepth 30000 in
theorem e_82_214 {ls : ab_L} {st : List Value} {w : ab_W} (h : ab_isR (ls 0) = true) : ab_Run ab_mt 82 214 ls st w = ab_Run ab_mt 82 215 ls (ab_gv (ls 0) :: st) w := E_loadr (n := 1) rfl h
set_option maxRecDepth 30000 in
theorem e_82_215 {ls : ab_L} {st : List Value} {w : ab_W} (h : ab_isI (ls 14) = true) : ab_Run ab_mt 82 215 ls st w = ab_Run ab_mt 82 217 ls (ab_gv (ls 14) :: st) w := E_loadi (n := 2) rfl h
set_option maxRecDepth 30000 in
theorem e_82_217 {ls : ab_L} {st : List Value} {w : ab_W} (h : ab_isI (ls 21) = true) : ab_Run ab_mt 82 217 ls st w = ab_Run ab_mt 82 219 ls (ab_gv (ls 21) :: st) w := E_loadi (n := 2) rfl h
set_option maxRecDepth 30000 in
theorem e_82_219 {ls : ab_L} {st : List Value} {w : ab_W} {v0 v1 v2 : Value} (h1 : ab_recv ab_mt 10 [v0, v1, v2] w.2 = true) (h8 : ab_w8 st = true) : ab_Run ab_mt 82 219 ls (v2 :: v1 :: v0 :: st) w = ab_aft 10 82 219 ls st (ab_Cl 10 [v0, v1, v2] w) := E_call3 rfl h1 h8
set_option maxRecDepth 30000 in
theorem e_82_222 {ls : ab_L} {st : List Value} {w : ab_W} (h : ab_isL (ls 19) = true) (h2 : (ls 20).isNone = true) : ab_Run ab_mt 82 222 ls st w = ab_Run ab_mt 82 224 ls (ab_gv (ls 19) :: st) w := E_loadl (n := 2) rfl h h2
set_option maxRecDepth 30000 in
theorem e_82_224 {ls : ab_L} {st : List Value} {w : ab_W} (h : ab_isI (ls 21) = true) : ab_Run ab_mt 82 224 ls st w = ab_Run ab_mt 82 226 ls (ab_gv (ls 21) :: st) w := E_loadi (n := 2) rfl h
set_option maxRecDepth 30000 in
theorem e_82_226 {ls : ab_L} {st : List Value} {w : ab_W} {x : Int32} : ab_Run ab_mt 82 226 ls (.int x :: st) w = ab_Run ab_mt 82 227 ls (.long x.toInt64 :: st) w := E_i2l rfl
set_option maxRecDepth 30000 in
theorem e_82_227 {ls : ab_L} {st : List Value} {w : ab_W} (h : ab_isL (ls 17) = true) (h2 : (ls 18).isNone = true) : ab_Run ab_mt 82 227 ls st w = ab_Run ab_mt 82 229 ls (ab_gv (ls 17) :: st) w := E_loadl (n := 2) rfl h h2
set_option maxRecDepth 30000 in
theorem e_82_229 {ls : ab_L} {st : List Value} {w : ab_W} {x y : Int64} : ab_Run ab_mt 82 229 ls (.long y :: .long x :: st) w = ab_Run ab_mt 82 230 ls (.long (x * y) :: st) w := E_lb (f := fun x y => x * y) rfl
set_option maxRecDepth 30000 in
theorem e_82_230 {ls : ab_L} {st : List Value} {w : ab_W} (h : ab_isR (ls 3) = true) : ab_Run ab_mt 82 230 ls st w = ab_Run ab_mt 82 231 ls (ab_gv (ls 3) :: st) w := E_loadr (n := 1) rfl h
set_option maxRecDepth 30000 in
theorem e_82_231 {ls : ab_L} {st : List Value} {w : ab_W} : ab_Run ab_mt 82 231 ls st w = ab_Run ab_mt 82 232 ls (.int (nI 5) :: st) w := E_push (n := 1) rfl
set_option maxRecDepth 30000 in
theorem e_82_232 {ls : ab_L} {st : List Value} {w : ab_W} (h : ab_isI (ls 15) = true) : ab_Run ab_mt 82 232 ls st w = ab_Run ab_mt 82 234 ls (ab_gv (ls 15) :: st) w := E_loadi (n := 2) rfl h
set_option maxRecDepth 30000 in
theorem e_82_234 {ls : ab_L} {st : List Value} {w : ab_W} {x y : Int32} : ab_Run ab_mt 82 234 ls (.int y :: .int x :: st) w = ab_Run ab_mt 82 235 ls (.int (x * y) :: st) w := E_ib (f := fun x y => x * y) rfl
set_option maxRecDepth 30000 in
theorem e_82_235 {ls : ab_L} {st : List Value} {w : ab_W} : ab_Run ab_mt 82 235 ls st w = ab_Run ab_mt 82 236 ls (.int (nI 1) :: st) w := E_push (n := 1) rfl
set_option maxRecDepth 30000 in
theorem e_82_236 {ls : ab_L} {st : List Value} {w : ab_W} {x y : Int32} : ab_Run ab_mt 82 236 ls (.int y :: .int x :: st) w = ab_Run ab_mt 82 237 ls (.int (x + y) :: st) w := E_ib (f := fun x y => x + y) rfl
set_option maxRecDepth 30000 in
theorem e_82_237 {ls : ab_L} {st : List Value} {w : ab_W} {a : Nat} {i : Int32} (h : ab_inI i (w.2 a) = true) : ab_Run ab_mt 82 237 ls (.int i :: .ref a :: st) w = ab_Run ab_mt 82 238 ls (.int (ab_aI i.toNatClampNeg (w.2 a)) :: st) w := E_iald rfl h
set_option maxRecDepth 30000 in
theorem e_82_238 {ls : ab_L} {st : List Value} {w : ab_W} {x : Int32} : ab_Run ab_mt 82 238 ls (.int x :: st) w = ab_Run ab_mt 82 239 ls (.long x.toInt64 :: st) w := E_i2l rfl
set_option maxRecDepth 30000 in
theorem e_82_239 {ls : ab_L} {st : List Value} {w : ab_W} {x y : Int64} (h : ¬ y = 0) : ab_Run ab_mt 82 239 ls (.long y :: .long x :: st) w = ab_Run ab_mt 82 240 ls (.long (x / y) :: st) w := E_ldv (f := fun x y => x / y) rfl h
set_option maxRecDepth 30000 in
theorem e_82_240 {ls : ab_L} {st : List Value} {w : ab_W} {x y : Int64} : ab_Run ab_mt 82 240 ls (.long y :: .long x :: st) w = ab_Run ab_mt 82 241 ls (.long (x + y) :: st) w := E_lb (f := fun x y => x + y) rfl
set_option maxRecDepth 30000 in
theorem e_82_241 {ls : ab_L} {st : List Value} {w : ab_W} {x y : Int64} : ab_Run ab_mt 82 241 ls (.long y :: .long x :: st) w = ab_Run ab_mt 82 242 ls (.int (lg_cmp x y) :: st) w := E_lcmp rfl
set_option maxRecDepth 30000 in
theorem e_82_242 {ls : ab_L} {st : List Value} {w : ab_W} {x : Int32} : ab_Run ab_mt 82 242 ls (.int x :: st) w = if x = 0 then ab_Run ab_mt 82 247 ls st w else ab_Run ab_mt 82 245 ls st w := E_if_eq rfl
set_option maxRecDepth 30000 in
theorem e_82_245 {ls : ab_L} {st : List Value} {w : ab_W} : ab_Run ab_mt 82 245 ls st w = ab_Run ab_mt 82 246 ls (.int (nI 0) :: st) w := E_push (n := 1) rfl
set_option maxRecDepth 30000 in
theorem e_82_246 {ls : ab_L} {w : ab_W} {x : Int32} (h : ab_fitr 2 (.int x) = true) : ab_Run ab_mt 82 246 ls [.int x] w = some (.inl (some (.int x)), w) := E_retz rfl h
set_option maxRecDepth 30000 in
theorem e_82_247 {ls : ab_L} {st : List Value} {w : ab_W} (h : ab_isL (ls 6) = true) (h2 : (ls 7).isNone = true) : ab_Run ab_mt 82 247 ls st w = ab_Run ab_mt 82 249 ls (ab_gv (ls 6) :: st) w := E_loadl (n := 2) rfl h h2
set_option maxRecDepth 30000 in
theorem e_82_249 {ls : ab_L} {st : List Value} {w : ab_W} (h : ab_isR (ls 3) = true) : ab_Run ab_mt 82 249 ls st w = ab_Run ab_mt 82 250 ls (ab_gv (ls 3) :: st) w := E_loadr (n := 1) rfl h
set_option maxRecDepth 30000 in
theorem e_82_250 {ls : ab_L} {st : List Value} {w : ab_W} : ab_Run ab_mt 82 250 ls st w = ab_Run ab_mt 82 251 ls (.int (nI 5) :: st) w := E_push (n := 1) rfl
set_option maxRecDepth 30000 in
theorem e_82_251 {ls : ab_L} {st : List Value} {w : ab_W} (h : ab_isI (ls 15) = true) : ab_Run ab_mt 82 251 ls st w = ab_Run ab_mt 82 253 ls (ab_gv (ls 15) :: st) w := E_loadi (n := 2) rfl h
set_option maxRecDepth 30000 in
theorem e_82_253 {ls : ab_L} {st : List Value} {w : ab_W} {x y : Int32} : ab_Run ab_mt 82 253 ls (.int y :: .int x :: st) w = ab_Run ab_mt 82 254 ls (.int (x * y) :: st) w := E_ib (f := fun x y => x * y) rfl
set_option maxRecDepth 30000 in
theorem e_82_254 {ls : ab_L} {st : List Value} {w : ab_W} : ab_Run ab_mt 82 254 ls st w = ab_Run ab_mt 82 255 ls (.int (nI 1) :: st) w := E_push (n := 1) rfl
set_option maxRecDepth 30000 in
theorem e_82_255 {ls : ab_L} {st : List Value} {w : ab_W} {x y : Int32} : ab_Run ab_mt 82 255 ls (.int y :: .int x :: st) w = ab_Run ab_mt 82 256 ls (.int (x + y) :: st) w := E_ib (f := fun x y => x + y) rfl
set_option maxRecDepth 30000 in
theorem e_82_256 {ls : ab_L} {st : List Value} {w : ab_W} {a : Nat} {i : Int32} (h : ab_inI i (w.2 a) = true) : ab_Run ab_mt 82 256 ls (.int i :: .ref a :: st) w = ab_Run ab_mt 82 257 ls (.int (ab_aI i.toNatClampNeg (w.2 a)) :: st) w := E_iald rfl h
set_option maxRecDepth 30000 in
theorem e_82_257 {ls : ab_L} {st : List Value} {w : ab_W} {x : Int32} : ab_Run ab_mt 82 257 ls (.int x :: st) w = ab_Run ab_mt 82 258 ls (.long x.toInt64 :: st) w := E_i2l rfl
set_option maxRecDepth 30000 in
theorem e_82_258 {ls : ab_L} {st : List Value} {w : ab_W} {x y : Int64} : ab_Run ab_mt 82 258 ls (.long y :: .long x :: st) w = ab_Run ab_mt 82 259 ls (.long (x + y) :: st) w := E_lb (f := fun x y => x + y) rfl
set_option maxRecDepth 30000 in
theorem e_82_259 {ls : ab_L} {st : List Value} {w : ab_W} {x : Int64} : ab_Run ab_mt 82 259 ls (.long x :: st) w = ab_Run ab_mt 82 261 (ab_l2 ls 6 (.long x)) st w := E_storl (n := 2) rfl
set_option maxRecDepth 30000 in
theorem e_82_261 {ls : ab_L} {st : List Value} {w : ab_W} (h : ab_isR (ls 3) = true) : ab_Run ab_mt 82 261 ls st w = ab_Run ab_mt 82 262 ls (ab_gv (ls 3) :: st) w := E_loadr (n := 1) rfl h
set_option maxRecDepth 30000 in
theorem e_82_262 {ls : ab_L} {st : List Value} {w : ab_W} : ab_Run ab_mt 82 262 ls st w = ab_Run ab_mt 82 263 ls (.int (nI 5) :: st) w := E_push (n := 1) rfl
set_option maxRecDepth 30000 in
theorem e_82_263 {ls : ab_L} {st : List Value} {w : ab_W} (h : ab_isI (ls 15) = true) : ab_Run ab_mt 82 263 ls st w = ab_Run ab_mt 82 265 ls (ab_gv (ls 15) :: st) w := E_loadi (n := 2) rfl h
set_option maxRecDepth 30000 in
theorem e_82_265 {ls : ab_L} {st : List Value} {w : ab_W} {x y : Int32} : ab_Run ab_mt 82 265 ls (.int y :: .int x :: st) w = ab_Run ab_mt 82 266 ls (.int (x * y) :: st) w := E_ib (f := fun x y => x * y) rfl
set_option maxRecDepth 30000 in
theorem e_82_266 {ls : ab_L} {st : List Value} {w : ab_W} : ab_Run ab_mt 82 266 ls st w = ab_Run ab_mt 82 267 ls (.int (nI 2) :: st) w := E_push (n := 1) rfl
set_option maxRecDepth 30000 in
theorem e_82_267 {ls : ab_L} {st : List Value} {w : ab_W} {x y : Int32} : ab_Run ab_mt 82 267 ls (.int y :: .int x :: st) w = ab_Run ab_mt 82 268 ls (.int (x + y) :: st) w := E_ib (f := fun x y => x + y) rfl
set_option maxRecDepth 30000 in
theorem e_82_268 {ls : ab_L} {st : List Value} {w : ab_W} {a : Nat} {i : Int32} (h : ab_inI i (w.2 a) = true) : ab_Run ab_mt 82 268 ls (.int i :: .ref a :: st) w = ab_Run ab_mt 82 269 ls (.int (ab_aI i.toNatClampNeg (w.2 a)) :: st) w := E_iald rfl h
set_option maxRecDepth 30000 in
theorem e_82_269 {ls : ab_L} {st : List Value} {w : ab_W} {x : Int32} : ab_Run ab_mt 82 269 ls (.int x :: st) w = if x ≤ 0 then ab_Run ab_mt 82 282 ls st w else ab_Run ab_mt 82 272 ls st w := E_if_le rfl
set_option maxRecDepth 30000 in
theorem e_82_272 {ls : ab_L} {st : List Value} {w : ab_W} (h : ab_isL (ls 8) = true) (h2 : (ls 9).isNone = true) : ab_Run ab_mt 82 272 ls st w = ab_Run ab_mt 82 274 ls (ab_gv (ls 8) :: st) w := E_loadl (n := 2) rfl h h2
set_option maxRecDepth 30000 in
theorem e_82_274 {ls : ab_L} {st : List Value} {w : ab_W} (h : ab_isL (ls 17) = true) (h2 : (ls 18).isNone = true) : ab_Run ab_mt 82 274 ls st w = ab_Run ab_mt 82 276 ls (ab_gv (ls 17) :: st) w := E_loadl (n := 2) rfl h h2
set_option maxRecDepth 30000 in
theorem e_82_276 {ls : ab_L} {st : List Value} {w : ab_W} {x y : Int64} : ab_Run ab_mt 82 276 ls (.long y :: .long x :: st) w = ab_Run ab_mt 82 277 ls (.long (x + y) :: st) w := E_lb (f := fun x y => x + y) rfl
set_option maxRecDepth 30000 in
theorem e_82_277 {ls : ab_L} {st : List Value} {w : ab_W} {x : Int64} : ab_Run ab_mt 82 277 ls (.long x :: st) w = ab_Run ab_mt 82 279 (ab_l2 ls 8 (.long x)) st w := E_storl (n := 2) rfl
set_option maxRecDepth 30000 in
theorem e_82_279 {ls : ab_L} {st : List Value} {w : ab_W} : ab_Run ab_mt 82 279 ls st w = ab_Run ab_mt 82 289 ls st w := E_goto rfl
set_option maxRecDepth 30000 in
theorem e_82_282 {ls : ab_L} {st : List Value} {w : ab_W} (h : ab_isL (ls 10) = true) (h2 : (ls 11).isNone = true) : ab_Run ab_mt 82 282 ls st w = ab_Run ab_mt 82 284 ls (ab_gv (ls 10) :: st) w := E_loadl (n := 2) rfl h h2
set_option maxRecDepth 30000 in
theorem e_82_284 {ls : ab_L} {st : List Value} {w : ab_W} (h : ab_isL (ls 17) = true) (h2 : (ls 18).isNone = true) : ab_Run ab_mt 82 284 ls st w = ab_Run ab_mt 82 286 ls (ab_gv (ls 17) :: st) w := E_loadl (n := 2) rfl h h2
set_option maxRecDepth 30000 in
theorem e_82_286 {ls : ab_L} {st : List Value} {w : ab_W} {x y : Int64} : ab_Run ab_mt 82 286 ls (.long y :: .long x :: st) w = ab_Run ab_mt 82 287 ls (.long (x + y) :: st) w := E_lb (f := fun x y => x + y) rfl
set_option maxRecDepth 30000 in
theorem e_82_287 {ls : ab_L} {st : List Value} {w : ab_W} {x : Int64} : ab_Run ab_mt 82 287 ls (.long x :: st) w = ab_Run ab_mt 82 289 (ab_l2 ls 10 (.long x)) st w := E_storl (n := 2) rfl
set_option maxRecDepth 30000 in
theorem e_82_289 {ls : ab_L} {st : List Value} {w : ab_W} (h : ab_isI (ls 14) = true) : ab_Run ab_mt 82 289 ls st w = ab_Run ab_mt 82 292 (ab_l1 ls 14 (.int (ab_gi (ls 14) + (nI 1)))) st w := E_iinc rfl h
set_option maxRecDepth 30000 in
theorem e_82_292 {ls : ab_L} {st : List Value} {w : ab_W} : ab_Run ab_mt 82 292 ls st w = ab_Run ab_mt 82 24 ls st w := E_goto rfl
set_option maxRecDepth 30000 in
theorem e_82_295 {ls : ab_L} {st : List Value} {w : ab_W} : ab_Run ab_mt 82 295 ls st w = ab_Run ab_mt 82 296 ls (.int (nI 0) :: st) w := E_push (n := 1) rfl
set_option maxRecDepth 30000 in
theorem e_82_296 {ls : ab_L} {st : List Value} {w : ab_W} {x : Int32} : ab_Run ab_mt 82 296 ls (.int x :: st) w = ab_Run ab_mt 82 298 (ab_l1 ls 14 (.int x)) st w := E_stori (n := 2) rfl
set_option maxRecDepth 30000 in
theorem e_82_298 {ls : ab_L} {st : List Value} {w : ab_W} (h : ab_isI (ls 14) = true) : ab_Run ab_mt 82 298 ls st w = ab_Run ab_mt 82 300 ls (ab_gv (ls 14) :: st) w := E_loadi (n := 2) rfl h
set_option maxRecDepth 30000 in
theorem e_82_300 {ls : ab_L} {st : List Value} {w : ab_W} (h : ab_isR (ls 2) = true) : ab_Run ab_mt 82 300 ls st w = ab_Run ab_mt 82 301 ls (ab_gv (ls 2) :: st) w := E_loadr (n := 1) rfl h
set_option maxRecDepth 30000 in
theorem e_82_301 {ls : ab_L} {st : List Value} {w : ab_W} : ab_Run ab_mt 82 301 ls st w = ab_Run ab_mt 82 302 ls (.int (nI 0) :: st) w := E_push (n := 1) rfl
set_option maxRecDepth 30000 in
theorem e_82_302 {ls : ab_L} {st : List Value} {w : ab_W} {a : Nat} {i : Int32} (h : ab_inI i (w.2 a) = true) : ab_Run ab_mt 82 302 ls (.int i :: .ref a :: st) w = ab_Run ab_mt 82 303 ls (.int (ab_aI i.toNatClampNeg (w.2 a)) :: st) w := E_iald rfl h
set_option maxRecDepth 30000 in
theorem e_82_303 {ls : ab_L} {st : List Value} {w : ab_W} {x y : Int32} : ab_Run ab_mt 82 303 ls (.int y :: .int x :: st) w = if y ≤ x then ab_Run ab_mt 82 385 ls st w else ab_Run ab_mt 82 306 ls st w := E_ic_ge rfl
set_option maxRecDepth 30000 in
theorem e_82_306 {ls : ab_L} {st : List Value} {w : ab_W} (h : ab_isL (ls 12) = true) (h2 : (ls 13).isNone = true) : ab_Run ab_mt 82 306 ls st w = ab_Run ab_mt 82 308 ls (ab_gv (ls 12) :: st) w := E_loadl (n := 2) rfl h h2
set_option maxRecDepth 30000 in
theorem e_82_308 {ls : ab_L} {st : List Value} {w : ab_W} : ab_Run ab_mt 82 308 ls st w = ab_Run ab_mt 82 311 ls (.long (lN 1000) :: st) w := E_push (n := 3) rfl
set_option maxRecDepth 30000 in
theorem e_82_311 {ls : ab_L} {st : List Value} {w : ab_W} (h : ab_isR (ls 3) = true) : ab_Run ab_mt 82 311 ls st w = ab_Run ab_mt 82 312 ls (ab_gv (ls 3) :: st) w := E_loadr (n := 1) rfl h
set_option maxRecDepth 30000 in
theorem e_82_312 {ls : ab_L} {st : List Value} {w : ab_W} : ab_Run ab_mt 82 312 ls st w = ab_Run ab_mt 82 313 ls (.int (nI 5) :: st) w := E_push (n := 1) rfl
set_option maxRecDepth 30000 in
theorem e_82_313 {ls : ab_L} {st : List Value} {w : ab_W} (h : ab_isI (ls 14) = true) : ab_Run ab_mt 82 313 ls st w = ab_Run ab_mt 82 315 ls (ab_gv (ls 14) :: st) w := E_loadi (n := 2) rfl h
set_option maxRecDepth 30000 in
theorem e_82_315 {ls : ab_L} {st : List Value} {w : ab_W} {x y : Int32} : ab_Run ab_mt 82 315 ls (.int y :: .int x :: st) w = ab_Run ab_mt 82 316 ls (.int (x * y) :: st) w := E_ib (f := fun x y => x * y) rfl
set_option maxRecDepth 30000 in
theorem e_82_316 {ls : ab_L} {st : List Value} {w : ab_W} : ab_Run ab_mt 82 316 ls st w = ab_Run ab_mt 82 317 ls (.int (nI 3) :: st) w := E_push (n := 1) rfl
set_option maxRecDepth 30000 in
theorem e_82_317 {ls : ab_L} {st : List Value} {w : ab_W} {x y : Int32} : ab_Run ab_mt 82 317 ls (.int y :: .int x :: st) w = ab_Run ab_mt 82 318 ls (.int (x + y) :: st) w := E_ib (f := fun x y => x + y) rfl
set_option maxRecDepth 30000 in
theorem e_82_318 {ls : ab_L} {st : List Value} {w : ab_W} {a : Nat} {i : Int32} (h : ab_inI i (w.2 a) = true) : ab_Run ab_mt 82 318 ls (.int i :: .ref a :: st) w = ab_Run ab_mt 82 319 ls (.int (ab_aI i.toNatClampNeg (w.2 a)) :: st) w := E_iald rfl h
set_option maxRecDepth 30000 in
theorem e_82_319 {ls : ab_L} {st : List Value} {w : ab_W} {x : Int32} : ab_Run ab_mt 82 319 ls (.int x :: st) w = ab_Run ab_mt 82 320 ls (.long x.toInt64 :: st) w := E_i2l rfl
set_option maxRecDepth 30000 in
theorem e_82_320 {ls : ab_L} {st : List Value} {w : ab_W} {x y : Int64} : ab_Run ab_mt 82 320 ls (.long y :: .long x :: st) w = ab_Run ab_mt 82 321 ls (.long (x * y) :: st) w := E_lb (f := fun x y => x * y) rfl
set_option maxRecDepth 30000 in
theorem e_82_321 {ls : ab_L} {st : List Value} {w : ab_W} {x y : Int64} : ab_Run ab_mt 82 321 ls (.long y :: .long x :: st) w = ab_Run ab_mt 82 322 ls (.long (x + y) :: st) w := E_lb (f := fun x y => x + y) rfl
set_option maxRecDepth 30000 in
theorem e_82_322 {ls : ab_L} {st : List Value} {w : ab_W} {x : Int64} : ab_Run ab_mt 82 322 ls (.long x :: st) w = ab_Run ab_mt 82 324 (ab_l2 ls 12 (.long x)) st w := E_storl (n := 2) rfl
set_option maxRecDepth 30000 in
theorem e_82_324 {ls : ab_L} {st : List Value} {w : ab_W} : ab_Run ab_mt 82 324 ls st w = ab_Run ab_mt 82 325 ls (.int (nI 0) :: st) w := E_push (n := 1) rfl
set_option maxRecDepth 30000 in
theorem e_82_325 {ls : ab_L} {st : List Value} {w : ab_W} {x : Int32} : ab_Run ab_mt 82 325 ls (.int x :: st) w = ab_Run ab_mt 82 327 (ab_l1 ls 15 (.int x)) st w := E_stori (n := 2) rfl
set_option maxRecDepth 30000 in
theorem e_82_327 {ls : ab_L} {st : List Value} {w : ab_W} (h : ab_isI (ls 15) = true) : ab_Run ab_mt 82 327 ls st w = ab_Run ab_mt 82 329 ls (ab_gv (ls 15) :: st) w := E_loadi (n := 2) rfl h
set_option maxRecDepth 30000 in
theorem e_82_329 {ls : ab_L} {st : List Value} {w : ab_W} : ab_Run ab_mt 82 329 ls st w = ab_Run ab_mt 82 330 ls (.int (nI 5) :: st) w := E_push (n := 1) rfl
set_option maxRecDepth 30000 in
theorem e_82_330 {ls : ab_L} {st : List Value} {w : ab_W} {x y : Int32} : ab_Run ab_mt 82 330 ls (.int y :: .int x :: st) w = if y ≤ x then ab_Run ab_mt 82 361 ls st w else ab_Run ab_mt 82 333 ls st w := E_ic_ge rfl
set_option maxRecDepth 30000 in
theorem e_82_333 {ls : ab_L} {st : List Value} {w : ab_W} (h : ab_isR (ls 0) = true) : ab_Run ab_mt 82 333 ls st w = ab_Run ab_mt 82 334 ls (ab_gv (ls 0) :: st) w := E_loadr (n := 1) rfl h
set_option maxRecDepth 30000 in
theorem e_82_334 {ls : ab_L} {st : List Value} {w : ab_W} (h : ab_isI (ls 14) = true) : ab_Run ab_mt 82 334 ls st w = ab_Run ab_mt 82 336 ls (ab_gv (ls 14) :: st) w := E_loadi (n := 2) rfl h
set_option maxRecDepth 30000 in
theorem e_82_336 {ls : ab_L} {st : List Value} {w : ab_W} (h : ab_isI (ls 15) = true) : ab_Run ab_mt 82 336 ls st w = ab_Run ab_mt 82 338 ls (ab_gv (ls 15) :: st) w := E_loadi (n := 2) rfl h
set_option maxRecDepth 30000 in
theorem e_82_338 {ls : ab_L} {st : List Value} {w : ab_W} {v0 v1 v2 : Value} (h1 : ab_recv ab_mt 8 [v0, v1, v2] w.2 = true) (h8 : ab_w8 st = true) : ab_Run ab_mt 82 338 ls (v2 :: v1 :: v0 :: st) w = ab_aft 8 82 338 ls st (ab_Cl 8 [v0, v1, v2] w) := E_call3 rfl h1 h8
set_option maxRecDepth 30000 in
theorem e_82_341 {ls : ab_L} {st : List Value} {w : ab_W} (h : ab_isR (ls 3) = true) : ab_Run ab_mt 82 341 ls st w = ab_Run ab_mt 82 342 ls (ab_gv (ls 3) :: st) w := E_loadr (n := 1) rfl h
set_option maxRecDepth 30000 in
theorem e_82_342 {ls : ab_L} {st : List Value} {w : ab_W} : ab_Run ab_mt 82 342 ls st w = ab_Run ab_mt 82 343 ls (.int (nI 5) :: st) w := E_push (n := 1) rfl
set_option maxRecDepth 30000 in
theorem e_82_343 {ls : ab_L} {st : List Value} {w : ab_W} (h : ab_isI (ls 14) = true) : ab_Run ab_mt 82 343 ls st w = ab_Run ab_mt 82 345 ls (ab_gv (ls 14) :: st) w := E_loadi (n := 2) rfl h
set_option maxRecDepth 30000 in
theorem e_82_345 {ls : ab_L} {st : List Value} {w : ab_W} {x y : Int32} : ab_Run ab_mt 82 345 ls (.int y :: .int x :: st) w = ab_Run ab_mt 82 346 ls (.int (x * y) :: st) w := E_ib (f := fun x y => x * y) rfl
set_option maxRecDepth 30000 in
theorem e_82_346 {ls : ab_L} {st : List Value} {w : ab_W} (h : ab_isI (ls 15) = true) : ab_Run ab_mt 82 346 ls st w = ab_Run ab_mt 82 348 ls (ab_gv (ls 15) :: st) w := E_loadi (n := 2) rfl h
set_option maxRecDepth 30000 in
theorem e_82_348 {ls : ab_L} {st : List Value} {w : ab_W} {x y : Int32} : ab_Run ab_mt 82 348 ls (.int y :: .int x :: st) w = ab_Run ab_mt 82 349 ls (.int (x + y) :: st) w := E_ib (f := fun x y => x + y) rfl
set_option maxRecDepth 30000 in
theorem e_82_349 {ls : ab_L} {st : List Value} {w : ab_W} {a : Nat} {i : Int32} (h : ab_inI i (w.2 a) = true) : ab_Run ab_mt 82 349 ls (.int i :: .ref a :: st) w = ab_Run ab_mt 82 350 ls (.int (ab_aI i.toNatClampNeg (w.2 a)) :: st) w := E_iald rfl h
set_option maxRecDepth 30000 in
theorem e_82_350 {ls : ab_L} {st : List Value} {w : ab_W} {x y : Int32} : ab_Run ab_mt 82 350 ls (.int y :: .int x :: st) w = if x = y then ab_Run ab_mt 82 355 ls st w else ab_Run ab_mt 82 353 ls st w := E_ic_eq rfl
set_option maxRecDepth 30000 in
theorem e_82_353 {ls : ab_L} {st : List Value} {w : ab_W} : ab_Run ab_mt 82 353 ls st w = ab_Run ab_mt 82 354 ls (.int (nI 0) :: st) w := E_push (n := 1) rfl
set_option maxRecDepth 30000 in
theorem e_82_354 {ls : ab_L} {w : ab_W} {x : Int32} (h : ab_fitr 2 (.int x) = true) : ab_Run ab_mt 82 354 ls [.int x] w = some (.inl (some (.int x)), w) := E_retz rfl h
set_option maxRecDepth 30000 in
theorem e_82_355 {ls : ab_L} {st : List Value} {w : ab_W} (h : ab_isI (ls 15) = true) : ab_Run ab_mt 82 355 ls st w = ab_Run ab_mt 82 358 (ab_l1 ls 15 (.int (ab_gi (ls 15) + (nI 1)))) st w := E_iinc rfl h
set_option maxRecDepth 30000 in
theorem e_82_358 {ls : ab_L} {st : List Value} {w : ab_W} : ab_Run ab_mt 82 358 ls st w = ab_Run ab_mt 82 327 ls st w := E_goto rfl
set_option maxRecDepth 30000 in
theorem e_82_361 {ls : ab_L} {st : List Value} {w : ab_W} (h : ab_isR (ls 0) = true) : ab_Run ab_mt 82 361 ls st w = ab_Run ab_mt 82 362 ls (ab_gv (ls 0) :: st) w := E_loadr (n := 1) rfl h
set_option maxRecDepth 30000 in
theorem e_82_362 {ls : ab_L} {st : List Value} {w : ab_W} (h : ab_isI (ls 14) = true) : ab_Run ab_mt 82 362 ls st w = ab_Run ab_mt 82 364 ls (ab_gv (ls 14) :: st) w := E_loadi (n := 2) rfl h
set_option maxRecDepth 30000 in
theorem e_82_364 {ls : ab_L} {st : List Value} {w : ab_W} : ab_Run ab_mt 82 364 ls st w = ab_Run ab_mt 82 365 ls (.int (nI 5) :: st) w := E_push (n := 1) rfl
set_option maxRecDepth 30000 in
theorem e_82_365 {ls : ab_L} {st : List Value} {w : ab_W} {v0 v1 v2 : Value} (h1 : ab_recv ab_mt 8 [v0, v1, v2] w.2 = true) (h8 : ab_w8 st = true) : ab_Run ab_mt 82 365 ls (v2 :: v1 :: v0 :: st) w = ab_aft 8 82 365 ls st (ab_Cl 8 [v0, v1, v2] w) := E_call3 rfl h1 h8
set_option maxRecDepth 30000 in
theorem e_82_368 {ls : ab_L} {st : List Value} {w : ab_W} (h : ab_isI (ls 14) = true) : ab_Run ab_mt 82 368 ls st w = ab_Run ab_mt 82 370 ls (ab_gv (ls 14) :: st) w := E_loadi (n := 2) rfl h
set_option maxRecDepth 30000 in
theorem e_82_370 {ls : ab_L} {st : List Value} {w : ab_W} (h : ab_isR (ls 3) = true) : ab_Run ab_mt 82 370 ls st w = ab_Run ab_mt 82 371 ls (ab_gv (ls 3) :: st) w := E_loadr (n := 1) rfl h
set_option maxRecDepth 30000 in
theorem e_82_371 {ls : ab_L} {st : List Value} {w : ab_W} {v0 v1 : Value} (h1 : ab_recv ab_mt 65 [v0, v1] w.2 = true) (h8 : ab_w8 st = true) : ab_Run ab_mt 82 371 ls (v1 :: v0 :: st) w = ab_aft 65 82 371 ls st (ab_Cl 65 [v0, v1] w) := E_call2 rfl h1 h8
set_option maxRecDepth 30000 in
theorem e_82_374 {ls : ab_L} {st : List Value} {w : ab_W} {x y : Int32} : ab_Run ab_mt 82 374 ls (.int y :: .int x :: st) w = if x = y then ab_Run ab_mt 82 379 ls st w else ab_Run ab_mt 82 377 ls st w := E_ic_eq rfl
set_option maxRecDepth 30000 in
theorem e_82_377 {ls : ab_L} {st : List Value} {w : ab_W} : ab_Run ab_mt 82 377 ls st w = ab_Run ab_mt 82 378 ls (.int (nI 0) :: st) w := E_push (n := 1) rfl
set_option maxRecDepth 30000 in
theorem e_82_378 {ls : ab_L} {w : ab_W} {x : Int32} (h : ab_fitr 2 (.int x) = true) : ab_Run ab_mt 82 378 ls [.int x] w = some (.inl (some (.int x)), w) := E_retz rfl h
set_option maxRecDepth 30000 in
theorem e_82_379 {ls : ab_L} {st : List Value} {w : ab_W} (h : ab_isI (ls 14) = true) : ab_Run ab_mt 82 379 ls st w = ab_Run ab_mt 82 382 (ab_l1 ls 14 (.int (ab_gi (ls 14) + (nI 1)))) st w := E_iinc rfl h
set_option maxRecDepth 30000 in
theorem e_82_382 {ls : ab_L} {st : List Value} {w : ab_W} : ab_Run ab_mt 82 382 ls st w = ab_Run ab_mt 82 298 ls st w := E_goto rfl
set_option maxRecDepth 30000 in
theorem e_82_385 {ls : ab_L} {st : List Value} {w : ab_W} (h : ab_isR (ls 2) = true) : ab_Run ab_mt 82 385 ls st w = ab_Run ab_mt 82 386 ls (ab_gv (ls 2) :: st) w := E_loadr (n := 1) rfl h
set_option maxRecDepth 30000 in
theorem e_82_386 {ls : ab_L} {st : List Value} {w : ab_W} : ab_Run ab_mt 82 386 ls st w = ab_Run ab_mt 82 387 ls (.int (nI 0) :: st) w := E_push (n := 1) rfl
set_option maxRecDepth 30000 in
theorem e_82_387 {ls : ab_L} {st : List Value} {w : ab_W} {a : Nat} {i : Int32} (h : ab_inI i (w.2 a) = true) : ab_Run ab_mt 82 387 ls (.int i :: .ref a :: st) w = ab_Run ab_mt 82 388 ls (.int (ab_aI i.toNatClampNeg (w.2 a)) :: st) w := E_iald rfl h
set_option maxRecDepth 30000 in
theorem e_82_388 {ls : ab_L} {st : List Value} {w : ab_W} (h : ab_isR (ls 2) = true) : ab_Run ab_mt 82 388 ls st w = ab_Run ab_mt 82 389 ls (ab_gv (ls 2) :: st) w := E_loadr (n := 1) rfl h
set_option maxRecDepth 30000 in
theorem e_82_389 {ls : ab_L} {st : List Value} {w : ab_W} (h : ab_isR (ls 3) = true) : ab_Run ab_mt 82 389 ls st w = ab_Run ab_mt 82 390 ls (ab_gv (ls 3) :: st) w := E_loadr (n := 1) rfl h
set_option maxRecDepth 30000 in
theorem e_82_390 {ls : ab_L} {st : List Value} {w : ab_W} (h : ab_isR (ls 4) = true) : ab_Run ab_mt 82 390 ls st w = ab_Run ab_mt 82 392 ls (ab_gv (ls 4) :: st) w := E_loadr (n := 2) rfl h
set_option maxRecDepth 30000 in
theorem e_82_392 {ls : ab_L} {st : List Value} {w : ab_W} {v0 v1 v2 v3 : Value} (h1 : ab_recv ab_mt 70 [v0, v1, v2, v3] w.2 = true) (h8 : ab_w8 st = true) : ab_Run ab_mt 82 392 ls (v3 :: v2 :: v1 :: v0 :: st) w = ab_aft 70 82 392 ls st (ab_Cl 70 [v0, v1, v2, v3] w) := E_call4 rfl h1 h8
set_option maxRecDepth 30000 in
theorem e_82_395 {ls : ab_L} {st : List Value} {w : ab_W} {x : Int64} : ab_Run ab_mt 82 395 ls (.long x :: st) w = ab_Run ab_mt 82 397 (ab_l2 ls 14 (.long x)) st w := E_storl (n := 2) rfl
set_option maxRecDepth 30000 in
theorem e_82_397 {ls : ab_L} {st : List Value} {w : ab_W} (h : ab_isR (ls 0) = true) : ab_Run ab_mt 82 397 ls st w = ab_Run ab_mt 82 398 ls (ab_gv (ls 0) :: st) w := E_loadr (n := 1) rfl h
set_option maxRecDepth 30000 in
theorem e_82_398 {ls : ab_L} {st : List Value} {w : ab_W} : ab_Run ab_mt 82 398 ls st w = ab_Run ab_mt 82 399 ls (.int (nI 0) :: st) w := E_push (n := 1) rfl
set_option maxRecDepth 30000 in
theorem e_82_399 {ls : ab_L} {st : List Value} {w : ab_W} {v0 v1 : Value} (h1 : ab_recv ab_mt 14 [v0, v1] w.2 = true) (h8 : ab_w8 st = true) : ab_Run ab_mt 82 399 ls (v1 :: v0 :: st) w = ab_aft 14 82 399 ls st (ab_Cl 14 [v0, v1] w) := E_call2 rfl h1 h8
set_option maxRecDepth 30000 in
theorem e_82_402 {ls : ab_L} {st : List Value} {w : ab_W} (h : ab_isR (ls 2) = true) : ab_Run ab_mt 82 402 ls st w = ab_Run ab_mt 82 403 ls (ab_gv (ls 2) :: st) w := E_loadr (n := 1) rfl h
set_option maxRecDepth 30000 in
theorem e_82_403 {ls : ab_L} {st : List Value} {w : ab_W} : ab_Run ab_mt 82 403 ls st w = ab_Run ab_mt 82 404 ls (.int (nI 0) :: st) w := E_push (n := 1) rfl
set_option maxRecDepth 30000 in
theorem e_82_404 {ls : ab_L} {st : List Value} {w : ab_W} {a : Nat} {i : Int32} (h : ab_inI i (w.2 a) = true) : ab_Run ab_mt 82 404 ls (.int i :: .ref a :: st) w = ab_Run ab_mt 82 405 ls (.int (ab_aI i.toNatClampNeg (w.2 a)) :: st) w := E_iald rfl h
set_option maxRecDepth 30000 in
theorem e_82_405 {ls : ab_L} {st : List Value} {w : ab_W} {x : Int32} : ab_Run ab_mt 82 405 ls (.int x :: st) w = ab_Run ab_mt 82 406 ls (.long x.toInt64 :: st) w := E_i2l rfl
set_option maxRecDepth 30000 in
theorem e_82_406 {ls : ab_L} {st : List Value} {w : ab_W} {x y : Int64} : ab_Run ab_mt 82 406 ls (.long y :: .long x :: st) w = ab_Run ab_mt 82 407 ls (.int (lg_cmp x y) :: st) w := E_lcmp rfl
set_option maxRecDepth 30000 in
theorem e_82_407 {ls : ab_L} {st : List Value} {w : ab_W} {x : Int32} : ab_Run ab_mt 82 407 ls (.int x :: st) w = if x = 0 then ab_Run ab_mt 82 410 ls st w else ab_Run ab_mt 82 524 ls st w := E_if_ne rfl
set_option maxRecDepth 30000 in
theorem e_82_410 {ls : ab_L} {st : List Value} {w : ab_W} (h : ab_isR (ls 0) = true) : ab_Run ab_mt 82 410 ls st w = ab_Run ab_mt 82 411 ls (ab_gv (ls 0) :: st) w := E_loadr (n := 1) rfl h
set_option maxRecDepth 30000 in
theorem e_82_411 {ls : ab_L} {st : List Value} {w : ab_W} : ab_Run ab_mt 82 411 ls st w = ab_Run ab_mt 82 412 ls (.int (nI 1) :: st) w := E_push (n := 1) rfl
set_option maxRecDepth 30000 in
theorem e_82_412 {ls : ab_L} {st : List Value} {w : ab_W} {v0 v1 : Value} (h1 : ab_recv ab_mt 14 [v0, v1] w.2 = true) (h8 : ab_w8 st = true) : ab_Run ab_mt 82 412 ls (v1 :: v0 :: st) w = ab_aft 14 82 412 ls st (ab_Cl 14 [v0, v1] w) := E_call2 rfl h1 h8
set_option maxRecDepth 30000 in
theorem e_82_415 {ls : ab_L} {st : List Value} {w : ab_W} (h : ab_isI (ls 5) = true) : ab_Run ab_mt 82 415 ls st w = ab_Run ab_mt 82 417 ls (ab_gv (ls 5) :: st) w := E_loadi (n := 2) rfl h
set_option maxRecDepth 30000 in
theorem e_82_417 {ls : ab_L} {st : List Value} {w : ab_W} {x : Int32} : ab_Run ab_mt 82 417 ls (.int x :: st) w = ab_Run ab_mt 82 418 ls (.long x.toInt64 :: st) w := E_i2l rfl
set_option maxRecDepth 30000 in
theorem e_82_418 {ls : ab_L} {st : List Value} {w : ab_W} {x y : Int64} : ab_Run ab_mt 82 418 ls (.long y :: .long x :: st) w = ab_Run ab_mt 82 419 ls (.int (lg_cmp x y) :: st) w := E_lcmp rfl
set_option maxRecDepth 30000 in
theorem e_82_419 {ls : ab_L} {st : List Value} {w : ab_W} {x : Int32} : ab_Run ab_mt 82 419 ls (.int x :: st) w = if x = 0 then ab_Run ab_mt 82 422 ls st w else ab_Run ab_mt 82 524 ls st w := E_if_ne rfl
set_option maxRecDepth 30000 in
theorem e_82_422 {ls : ab_L} {st : List Value} {w : ab_W} (h : ab_isR (ls 0) = true) : ab_Run ab_mt 82 422 ls st w = ab_Run ab_mt 82 423 ls (ab_gv (ls 0) :: st) w := E_loadr (n := 1) rfl h
set_option maxRecDepth 30000 in
theorem e_82_423 {ls : ab_L} {st : List Value} {w : ab_W} : ab_Run ab_mt 82 423 ls st w = ab_Run ab_mt 82 424 ls (.int (nI 4) :: st) w := E_push (n := 1) rfl
set_option maxRecDepth 30000 in
theorem e_82_424 {ls : ab_L} {st : List Value} {w : ab_W} {v0 v1 : Value} (h1 : ab_recv ab_mt 14 [v0, v1] w.2 = true) (h8 : ab_w8 st = true) : ab_Run ab_mt 82 424 ls (v1 :: v0 :: st) w = ab_aft 14 82 424 ls st (ab_Cl 14 [v0, v1] w) := E_call2 rfl h1 h8
set_option maxRecDepth 30000 in
theorem e_82_427 {ls : ab_L} {st : List Value} {w : ab_W} (h : ab_isL (ls 6) = true) (h2 : (ls 7).isNone = true) : ab_Run ab_mt 82 427 ls st w = ab_Run ab_mt 82 429 ls (ab_gv (ls 6) :: st) w := E_loadl (n := 2) rfl h h2
set_option maxRecDepth 30000 in
theorem e_82_429 {ls : ab_L} {st : List Value} {w : ab_W} {x y : Int64} : ab_Run ab_mt 82 429 ls (.long y :: .long x :: st) w = ab_Run ab_mt 82 430 ls (.int (lg_cmp x y) :: st) w := E_lcmp rfl
set_option maxRecDepth 30000 in
theorem e_82_430 {ls : ab_L} {st : List Value} {w : ab_W} {x : Int32} : ab_Run ab_mt 82 430 ls (.int x :: st) w = if x = 0 then ab_Run ab_mt 82 433 ls st w else ab_Run ab_mt 82 524 ls st w := E_if_ne rfl
set_option maxRecDepth 30000 in
theorem e_82_433 {ls : ab_L} {st : List Value} {w : ab_W} (h : ab_isR (ls 0) = true) : ab_Run ab_mt 82 433 ls st w = ab_Run ab_mt 82 434 ls (ab_gv (ls 0) :: st) w := E_loadr (n := 1) rfl h
set_option maxRecDepth 30000 in
theorem e_82_434 {ls : ab_L} {st : List Value} {w : ab_W} : ab_Run ab_mt 82 434 ls st w = ab_Run ab_mt 82 435 ls (.int (nI 5) :: st) w := E_push (n := 1) rfl
set_option maxRecDepth 30000 in
theorem e_82_435 {ls : ab_L} {st : List Value} {w : ab_W} {v0 v1 : Value} (h1 : ab_recv ab_mt 14 [v0, v1] w.2 = true) (h8 : ab_w8 st = true) : ab_Run ab_mt 82 435 ls (v1 :: v0 :: st) w = ab_aft 14 82 435 ls st (ab_Cl 14 [v0, v1] w) := E_call2 rfl h1 h8
set_option maxRecDepth 30000 in
theorem e_82_438 {ls : ab_L} {st : List Value} {w : ab_W} (h : ab_isL (ls 14) = true) (h2 : (ls 15).isNone = true) : ab_Run ab_mt 82 438 ls st w = ab_Run ab_mt 82 440 ls (ab_gv (ls 14) :: st) w := E_loadl (n := 2) rfl h h2
set_option maxRecDepth 30000 in
theorem e_82_440 {ls : ab_L} {st : List Value} {w : ab_W} {x y : Int64} : ab_Run ab_mt 82 440 ls (.long y :: .long x :: st) w = ab_Run ab_mt 82 441 ls (.int (lg_cmp x y) :: st) w := E_lcmp rfl
set_option maxRecDepth 30000 in
theorem e_82_441 {ls : ab_L} {st : List Value} {w : ab_W} {x : Int32} : ab_Run ab_mt 82 441 ls (.int x :: st) w = if x = 0 then ab_Run ab_mt 82 444 ls st w else ab_Run ab_mt 82 524 ls st w := E_if_ne rfl
set_option maxRecDepth 30000 in
theorem e_82_444 {ls : ab_L} {st : List Value} {w : ab_W} (h : ab_isR (ls 0) = true) : ab_Run ab_mt 82 444 ls st w = ab_Run ab_mt 82 445 ls (ab_gv (ls 0) :: st) w := E_loadr (n := 1) rfl h
set_option maxRecDepth 30000 in
theorem e_82_445 {ls : ab_L} {st : List Value} {w : ab_W} : ab_Run ab_mt 82 445 ls st w = ab_Run ab_mt 82 447 ls (.int (nI 6) :: st) w := E_push (n := 2) rfl
set_option maxRecDepth 30000 in
theorem e_82_447 {ls : ab_L} {st : List Value} {w : ab_W} {v0 v1 : Value} (h1 : ab_recv ab_mt 14 [v0, v1] w.2 = true) (h8 : ab_w8 st = true) : ab_Run ab_mt 82 447 ls (v1 :: v0 :: st) w = ab_aft 14 82 447 ls st (ab_Cl 14 [v0, v1] w) := E_call2 rfl h1 h8
set_option maxRecDepth 30000 in
theorem e_82_450 {ls : ab_L} {st : List Value} {w : ab_W} (h : ab_isL (ls 12) = true) (h2 : (ls 13).isNone = true) : ab_Run ab_mt 82 450 ls st w = ab_Run ab_mt 82 452 ls (ab_gv (ls 12) :: st) w := E_loadl (n := 2) rfl h h2
set_option maxRecDepth 30000 in
theorem e_82_452 {ls : ab_L} {st : List Value} {w : ab_W} {x y : Int64} : ab_Run ab_mt 82 452 ls (.long y :: .long x :: st) w = ab_Run ab_mt 82 453 ls (.int (lg_cmp x y) :: st) w := E_lcmp rfl
set_option maxRecDepth 30000 in
theorem e_82_453 {ls : ab_L} {st : List Value} {w : ab_W} {x : Int32} : ab_Run ab_mt 82 453 ls (.int x :: st) w = if x = 0 then ab_Run ab_mt 82 456 ls st w else ab_Run ab_mt 82 524 ls st w := E_if_ne rfl
set_option maxRecDepth 30000 in
theorem e_82_456 {ls : ab_L} {st : List Value} {w : ab_W} (h : ab_isR (ls 0) = true) : ab_Run ab_mt 82 456 ls st w = ab_Run ab_mt 82 457 ls (ab_gv (ls 0) :: st) w := E_loadr (n := 1) rfl h
set_option maxRecDepth 30000 in
theorem e_82_457 {ls : ab_L} {st : List Value} {w : ab_W} : ab_Run ab_mt 82 457 ls st w = ab_Run ab_mt 82 459 ls (.int (nI 7) :: st) w := E_push (n := 2) rfl
set_option maxRecDepth 30000 in
theorem e_82_459 {ls : ab_L} {st : List Value} {w : ab_W} {v0 v1 : Value} (h1 : ab_recv ab_mt 14 [v0, v1] w.2 = true) (h8 : ab_w8 st = true) : ab_Run ab_mt 82 459 ls (v1 :: v0 :: st) w = ab_aft 14 82 459 ls st (ab_Cl 14 [v0, v1] w) := E_call2 rfl h1 h8
set_option maxRecDepth 30000 in
theorem e_82_462 {ls : ab_L} {st : List Value} {w : ab_W} (h : ab_isL (ls 8) = true) (h2 : (ls 9).isNone = true) : ab_Run ab_mt 82 462 ls st w = ab_Run ab_mt 82 464 ls (ab_gv (ls 8) :: st) w := E_loadl (n := 2) rfl h h2
set_option maxRecDepth 30000 in
theorem e_82_464 {ls : ab_L} {st : List Value} {w : ab_W} {x y : Int64} : ab_Run ab_mt 82 464 ls (.long y :: .long x :: st) w = ab_Run ab_mt 82 465 ls (.int (lg_cmp x y) :: st) w := E_lcmp rfl
set_option maxRecDepth 30000 in
theorem e_82_465 {ls : ab_L} {st : List Value} {w : ab_W} {x : Int32} : ab_Run ab_mt 82 465 ls (.int x :: st) w = if x = 0 then ab_Run ab_mt 82 468 ls st w else ab_Run ab_mt 82 524 ls st w := E_if_ne rfl
set_option maxRecDepth 30000 in
theorem e_82_468 {ls : ab_L} {st : List Value} {w : ab_W} (h : ab_isR (ls 0) = true) : ab_Run ab_mt 82 468 ls st w = ab_Run ab_mt 82 469 ls (ab_gv (ls 0) :: st) w := E_loadr (n := 1) rfl h
set_option maxRecDepth 30000 in
theorem e_82_469 {ls : ab_L} {st : List Value} {w : ab_W} : ab_Run ab_mt 82 469 ls st w = ab_Run ab_mt 82 471 ls (.int (nI 8) :: st) w := E_push (n := 2) rfl
set_option maxRecDepth 30000 in
theorem e_82_471 {ls : ab_L} {st : List Value} {w : ab_W} {v0 v1 : Value} (h1 : ab_recv ab_mt 14 [v0, v1] w.2 = true) (h8 : ab_w8 st = true) : ab_Run ab_mt 82 471 ls (v1 :: v0 :: st) w = ab_aft 14 82 471 ls st (ab_Cl 14 [v0, v1] w) := E_call2 rfl h1 h8
set_option maxRecDepth 30000 in
theorem e_82_474 {ls : ab_L} {st : List Value} {w : ab_W} (h : ab_isL (ls 10) = true) (h2 : (ls 11).isNone = true) : ab_Run ab_mt 82 474 ls st w = ab_Run ab_mt 82 476 ls (ab_gv (ls 10) :: st) w := E_loadl (n := 2) rfl h h2
set_option maxRecDepth 30000 in
theorem e_82_476 {ls : ab_L} {st : List Value} {w : ab_W} {x y : Int64} : ab_Run ab_mt 82 476 ls (.long y :: .long x :: st) w = ab_Run ab_mt 82 477 ls (.int (lg_cmp x y) :: st) w := E_lcmp rfl
set_option maxRecDepth 30000 in
theorem e_82_477 {ls : ab_L} {st : List Value} {w : ab_W} {x : Int32} : ab_Run ab_mt 82 477 ls (.int x :: st) w = if x = 0 then ab_Run ab_mt 82 480 ls st w else ab_Run ab_mt 82 524 ls st w := E_if_ne rfl
set_option maxRecDepth 30000 in
theorem e_82_480 {ls : ab_L} {st : List Value} {w : ab_W} (h : ab_isR (ls 0) = true) : ab_Run ab_mt 82 480 ls st w = ab_Run ab_mt 82 481 ls (ab_gv (ls 0) :: st) w := E_loadr (n := 1) rfl h
set_option maxRecDepth 30000 in
theorem e_82_481 {ls : ab_L} {st : List Value} {w : ab_W} : ab_Run ab_mt 82 481 ls st w = ab_Run ab_mt 82 483 ls (.int (nI 9) :: st) w := E_push (n := 2) rfl
set_option maxRecDepth 30000 in
theorem e_82_483 {ls : ab_L} {st : List Value} {w : ab_W} {v0 v1 : Value} (h1 : ab_recv ab_mt 14 [v0, v1] w.2 = true) (h8 : ab_w8 st = true) : ab_Run ab_mt 82 483 ls (v1 :: v0 :: st) w = ab_aft 14 82 483 ls st (ab_Cl 14 [v0, v1] w) := E_call2 rfl h1 h8
set_option maxRecDepth 30000 in
theorem e_82_486 {ls : ab_L} {st : List Value} {w : ab_W} : ab_Run ab_mt 82 486 ls st w = ab_Run ab_mt 82 487 ls (.long (lN 0) :: st) w := E_push (n := 1) rfl
set_option maxRecDepth 30000 in
theorem e_82_487 {ls : ab_L} {st : List Value} {w : ab_W} {x y : Int64} : ab_Run ab_mt 82 487 ls (.long y :: .long x :: st) w = ab_Run ab_mt 82 488 ls (.int (lg_cmp x y) :: st) w := E_lcmp rfl
set_option maxRecDepth 30000 in
theorem e_82_488 {ls : ab_L} {st : List Value} {w : ab_W} {x : Int32} : ab_Run ab_mt 82 488 ls (.int x :: st) w = if x = 0 then ab_Run ab_mt 82 491 ls st w else ab_Run ab_mt 82 524 ls st w := E_if_ne rfl
set_option maxRecDepth 30000 in
theorem e_82_491 {ls : ab_L} {st : List Value} {w : ab_W} (h : ab_isR (ls 0) = true) : ab_Run ab_mt 82 491 ls st w = ab_Run ab_mt 82 492 ls (ab_gv (ls 0) :: st) w := E_loadr (n := 1) rfl h
set_option maxRecDepth 30000 in
theorem e_82_492 {ls : ab_L} {st : List Value} {w : ab_W} {v0 : Value} (h1 : ab_recv ab_mt 15 [v0] w.2 = true) (h8 : ab_w8 st = true) : ab_Run ab_mt 82 492 ls (v0 :: st) w = ab_aft 15 82 492 ls st (ab_Cl 15 [v0] w) := E_call1 rfl h1 h8
set_option maxRecDepth 30000 in
theorem e_82_495 {ls : ab_L} {st : List Value} {w : ab_W} (h : ab_isR (ls 2) = true) : ab_Run ab_mt 82 495 ls st w = ab_Run ab_mt 82 496 ls (ab_gv (ls 2) :: st) w := E_loadr (n := 1) rfl h
set_option maxRecDepth 30000 in
theorem e_82_496 {ls : ab_L} {st : List Value} {w : ab_W} : ab_Run ab_mt 82 496 ls st w = ab_Run ab_mt 82 497 ls (.int (nI 0) :: st) w := E_push (n := 1) rfl
set_option maxRecDepth 30000 in
theorem e_82_497 {ls : ab_L} {st : List Value} {w : ab_W} {a : Nat} {i : Int32} (h : ab_inI i (w.2 a) = true) : ab_Run ab_mt 82 497 ls (.int i :: .ref a :: st) w = ab_Run ab_mt 82 498 ls (.int (ab_aI i.toNatClampNeg (w.2 a)) :: st) w := E_iald rfl h
set_option maxRecDepth 30000 in
theorem e_82_498 {ls : ab_L} {st : List Value} {w : ab_W} {x : Int32} : ab_Run ab_mt 82 498 ls (.int x :: st) w = if x = 0 then ab_Run ab_mt 82 501 ls st w else ab_Run ab_mt 82 505 ls st w := E_if_ne rfl
set_option maxRecDepth 30000 in
theorem e_82_501 {ls : ab_L} {st : List Value} {w : ab_W} : ab_Run ab_mt 82 501 ls st w = ab_Run ab_mt 82 502 ls (.double FP.dconst0 :: st) w := E_push (n := 1) rfl
set_option maxRecDepth 30000 in
theorem e_82_502 {ls : ab_L} {st : List Value} {w : ab_W} : ab_Run ab_mt 82 502 ls st w = ab_Run ab_mt 82 516 ls st w := E_goto rfl
set_option maxRecDepth 30000 in
theorem e_82_505 {ls : ab_L} {st : List Value} {w : ab_W} : ab_Run ab_mt 82 505 ls st w = ab_Run ab_mt 82 508 ls (.double 4723321873536909312 :: st) w := E_push (n := 3) rfl
set_option maxRecDepth 30000 in
theorem e_82_508 {ls : ab_L} {st : List Value} {w : ab_W} (h : ab_isI (ls 5) = true) : ab_Run ab_mt 82 508 ls st w = ab_Run ab_mt 82 510 ls (ab_gv (ls 5) :: st) w := E_loadi (n := 2) rfl h
set_option maxRecDepth 30000 in
theorem e_82_510 {ls : ab_L} {st : List Value} {w : ab_W} {x : Int32} : ab_Run ab_mt 82 510 ls (.int x :: st) w = ab_Run ab_mt 82 511 ls (.double (FP.i2d x) :: st) w := E_i2d rfl
set_option maxRecDepth 30000 in
theorem e_82_511 {ls : ab_L} {st : List Value} {w : ab_W} {x y : UInt64} (h : ab_n64 (FP.dmul x y) = true) : ab_Run ab_mt 82 511 ls (.double y :: .double x :: st) w = ab_Run ab_mt 82 512 ls (.double (FP.dmul x y) :: st) w := E_db rfl h
set_option maxRecDepth 30000 in
theorem e_82_512 {ls : ab_L} {st : List Value} {w : ab_W} (h : ab_isL (ls 14) = true) (h2 : (ls 15).isNone = true) : ab_Run ab_mt 82 512 ls st w = ab_Run ab_mt 82 514 ls (ab_gv (ls 14) :: st) w := E_loadl (n := 2) rfl h h2
set_option maxRecDepth 30000 in
theorem e_82_514 {ls : ab_L} {st : List Value} {w : ab_W} {x : Int64} : ab_Run ab_mt 82 514 ls (.long x :: st) w = ab_Run ab_mt 82 515 ls (.double (FP.l2d x) :: st) w := E_l2d rfl
set_option maxRecDepth 30000 in
theorem e_82_515 {ls : ab_L} {st : List Value} {w : ab_W} {x y : UInt64} (h : ab_n64 (FP.ddiv x y) = true) : ab_Run ab_mt 82 515 ls (.double y :: .double x :: st) w = ab_Run ab_mt 82 516 ls (.double (FP.ddiv x y) :: st) w := E_db rfl h
set_option maxRecDepth 30000 in
theorem e_82_516 {ls : ab_L} {st : List Value} {w : ab_W} {x y : UInt64} : ab_Run ab_mt 82 516 ls (.double y :: .double x :: st) w = ab_Run ab_mt 82 517 ls (.int (Op.cmpValue (FP.dcmp x y) .l) :: st) w := E_dcmp rfl
set_option maxRecDepth 30000 in
theorem e_82_517 {ls : ab_L} {st : List Value} {w : ab_W} {x : Int32} : ab_Run ab_mt 82 517 ls (.int x :: st) w = if x = 0 then ab_Run ab_mt 82 520 ls st w else ab_Run ab_mt 82 524 ls st w := E_if_ne rfl
set_option maxRecDepth 30000 in
theorem e_82_520 {ls : ab_L} {st : List Value} {w : ab_W} : ab_Run ab_mt 82 520 ls st w = ab_Run ab_mt 82 521 ls (.int (nI 1) :: st) w := E_push (n := 1) rfl
set_option maxRecDepth 30000 in
theorem e_82_521 {ls : ab_L} {st : List Value} {w : ab_W} : ab_Run ab_mt 82 521 ls st w = ab_Run ab_mt 82 525 ls st w := E_goto rfl
set_option maxRecDepth 30000 in
theorem e_82_524 {ls : ab_L} {st : List Value} {w : ab_W} : ab_Run ab_mt 82 524 ls st w = ab_Run ab_mt 82 525 ls (.int (nI 0) :: st) w := E_push (n := 1) rfl
set_option maxRecDepth 30000 in
theorem e_82_525 {ls : ab_L} {w : ab_W} {x : Int32} (h : ab_fitr 2 (.int x) = true) : ab_Run ab_mt 82 525 ls [.int x] w = some (.inl (some (.int x)), w) := E_retz rfl h
theorem rv_82 {σ : ab_S} {x0 : Nat} {x1 : Int32} {x2 : Nat} {x3 : Nat} {x4 : Nat} : ab_recv ab_mt 82 [.ref x0, .int x1, .ref x2, .ref x3, .ref x4] σ = true := rfl
theorem x_82_56 {ls : ab_L} {rest : List Value} {E : Nat} {w : ab_W} : ab_aft 73 82 56 ls rest (some (.inr E, w)) = some (.inr E, w) := ab_aft_x rfl rfl (by unfold ab_hand; rfl)
theorem x_82_67 {ls : ab_L} {rest : List Value} {E : Nat} {w : ab_W} : ab_aft 72 82 67 ls rest (some (.inr E, w)) = some (.inr E, w) := ab_aft_x rfl rfl (by unfold ab_hand; rfl)
theorem x_82_96 {ls : ab_L} {rest : List Value} {E : Nat} {w : ab_W} : ab_aft 9 82 96 ls rest (some (.inr E, w)) = some (.inr E, w) := ab_aft_x rfl rfl (by unfold ab_hand; rfl)
theorem x_82_110 {ls : ab_L} {rest : List Value} {E : Nat} {w : ab_W} : ab_aft 9 82 110 ls rest (some (.inr E, w)) = some (.inr E, w) := ab_aft_x rfl rfl (by unfold ab_hand; rfl)
theorem x_82_124 {ls : ab_L} {rest : List Value} {E : Nat} {w : ab_W} : ab_aft 9 82 124 ls rest (some (.inr E, w)) = some (.inr E, w) := ab_aft_x rfl rfl (by unfold ab_hand; rfl)
theorem x_82_144 {ls : ab_L} {rest : List Value} {E : Nat} {w : ab_W} : ab_aft 9 82 144 ls rest (some (.inr E, w)) = some (.inr E, w) := ab_aft_x rfl rfl (by unfold ab_hand; rfl)
theorem x_82_164 {ls : ab_L} {rest : List Value} {E : Nat} {w : ab_W} : ab_aft 9 82 164 ls rest (some (.inr E, w)) = some (.inr E, w) := ab_aft_x rfl rfl (by unfold ab_hand; rfl)
theorem x_82_177 {ls : ab_L} {rest : List Value} {E : Nat} {w : ab_W} : ab_aft 9 82 177 ls rest (some (.inr E, w)) = some (.inr E, w) := ab_aft_x rfl rfl (by unfold ab_hand; rfl)
theorem x_82_191 {ls : ab_L} {rest : List Value} {E : Nat} {w : ab_W} : ab_aft 9 82 191 ls rest (some (.inr E, w)) = some (.inr E, w) := ab_aft_x rfl rfl (by unfold ab_hand; rfl)
theorem x_82_219 {ls : ab_L} {rest : List Value} {E : Nat} {w : ab_W} : ab_aft 10 82 219 ls rest (some (.inr E, w)) = some (.inr E, w) := ab_aft_x rfl rfl (by unfold ab_hand; rfl)
theorem x_82_338 {ls : ab_L} {rest : List Value} {E : Nat} {w : ab_W} : ab_aft 8 82 338 ls rest (some (.inr E, w)) = some (.inr E, w) := ab_aft_x rfl rfl (by unfold ab_hand; rfl)
theorem x_82_365 {ls : ab_L} {rest : List Value} {E : Nat} {w : ab_W} : ab_aft 8 82 365 ls rest (some (.inr E, w)) = some (.inr E, w) := ab_aft_x rfl rfl (by unfold ab_hand; rfl)
theorem x_82_399 {ls : ab_L} {rest : List Value} {E : Nat} {w : ab_W} : ab_aft 14 82 399 ls rest (some (.inr E, w)) = some (.inr E, w) := ab_aft_x rfl rfl (by unfold ab_hand; rfl)
theorem x_82_412 {ls : ab_L} {rest : List Value} {E : Nat} {w : ab_W} : ab_aft 14 82 412 ls rest (some (.inr E, w)) = some (.inr E, w) := ab_aft_x rfl rfl (by unfold ab_hand; rfl)
theorem x_82_424 {ls : ab_L} {rest : List Value} {E : Nat} {w : ab_W} : ab_aft 14 82 424 ls rest (some (.inr E, w)) = some (.inr E, w) := ab_aft_x rfl rfl (by unfold ab_hand; rfl)
theorem x_82_435 {ls : ab_L} {rest : List Value} {E : Nat} {w : ab_W} : ab_aft 14 82 435 ls rest (some (.inr E, w)) = some (.inr E, w) := ab_aft_x rfl rfl (by unfold ab_hand; rfl)
theorem x_82_447 {ls : ab_L} {rest : List Value} {E : Nat} {w : ab_W} : ab_aft 14 82 447 ls rest (some (.inr E, w)) = some (.inr E, w) := ab_aft_x rfl rfl (by unfold ab_hand; rfl)
theorem x_82_459 {ls : ab_L} {rest : List Value} {E : Nat} {w : ab_W} : ab_aft 14 82 459 ls rest (some (.inr E, w)) = some (.inr E, w) := ab_aft_x rfl rfl (by unfold ab_hand; rfl)
theorem x_82_471 {ls : ab_L} {rest : List Value} {E : Nat} {w : ab_W} : ab_aft 14 82 471 ls rest (some (.inr E, w)) = some (.inr E, w) := ab_aft_x rfl rfl (by unfold ab_hand; rfl)
theorem x_82_483 {ls : ab_L} {rest : List Value} {E : Nat} {w : ab_W} : ab_aft 14 82 483 ls rest (some (.inr E, w)) = some (.inr E, w) := ab_aft_x rfl rfl (by unfold ab_hand; rfl)
