/-! the equations of runs, an instruction each: printed by wip/p34/gen_step.py -/
theorem e_29_0 {ls : ab_L} {st : List Value} {w : ab_W} : ab_Run ab_mt 29 0 ls st w = ab_Run ab_mt 29 1 ls (.int (-1) :: st) w := E_push (n := 1) rfl
theorem e_29_1 {ls : ab_L} {st : List Value} {w : ab_W} {x : Int32} : ab_Run ab_mt 29 1 ls (.int x :: st) w = ab_Run ab_mt 29 2 (ab_l1 ls 1 (.int x)) st w := E_stori (n := 1) rfl
theorem e_29_2 {ls : ab_L} {st : List Value} {w : ab_W} : ab_Run ab_mt 29 2 ls st w = ab_Run ab_mt 29 3 ls (.int (nI 0) :: st) w := E_push (n := 1) rfl
theorem e_29_3 {ls : ab_L} {st : List Value} {w : ab_W} {x : Int32} : ab_Run ab_mt 29 3 ls (.int x :: st) w = ab_Run ab_mt 29 4 (ab_l1 ls 2 (.int x)) st w := E_stori (n := 1) rfl
theorem e_29_4 {ls : ab_L} {st : List Value} {w : ab_W} (h : ab_isI (ls 2) = true) : ab_Run ab_mt 29 4 ls st w = ab_Run ab_mt 29 5 ls (ab_gv (ls 2) :: st) w := E_loadi (n := 1) rfl h
theorem e_29_5 {ls : ab_L} {st : List Value} {w : ab_W} (h : ab_isR (ls 0) = true) : ab_Run ab_mt 29 5 ls st w = ab_Run ab_mt 29 6 ls (ab_gv (ls 0) :: st) w := E_loadr (n := 1) rfl h
theorem e_29_6 {ls : ab_L} {st : List Value} {w : ab_W} {a : Nat} (h : ab_isF 1 6 (w.2 a) = true) : ab_Run ab_mt 29 6 ls (.ref a :: st) w = ab_Run ab_mt 29 9 ls (ab_fv 6 (w.2 a) :: st) w := E_get rfl h
theorem e_29_9 {ls : ab_L} {st : List Value} {w : ab_W} {x y : Int32} : ab_Run ab_mt 29 9 ls (.int y :: .int x :: st) w = if y ≤ x then ab_Run ab_mt 29 81 ls st w else ab_Run ab_mt 29 12 ls st w := E_ic_ge rfl
theorem e_29_12 {ls : ab_L} {st : List Value} {w : ab_W} (h : ab_isI (ls 1) = true) : ab_Run ab_mt 29 12 ls st w = ab_Run ab_mt 29 13 ls (ab_gv (ls 1) :: st) w := E_loadi (n := 1) rfl h
theorem e_29_13 {ls : ab_L} {st : List Value} {w : ab_W} : ab_Run ab_mt 29 13 ls st w = ab_Run ab_mt 29 14 ls (.int (nI 1) :: st) w := E_push (n := 1) rfl
theorem e_29_14 {ls : ab_L} {st : List Value} {w : ab_W} {x y : Int32} : ab_Run ab_mt 29 14 ls (.int y :: .int x :: st) w = ab_Run ab_mt 29 15 ls (.int (x + y) :: st) w := E_ib (f := fun x y => x + y) rfl
theorem e_29_15 {ls : ab_L} {st : List Value} {w : ab_W} (h : ab_isR (ls 0) = true) : ab_Run ab_mt 29 15 ls st w = ab_Run ab_mt 29 16 ls (ab_gv (ls 0) :: st) w := E_loadr (n := 1) rfl h
theorem e_29_16 {ls : ab_L} {st : List Value} {w : ab_W} {a : Nat} (h : ab_isF 1 0 (w.2 a) = true) : ab_Run ab_mt 29 16 ls (.ref a :: st) w = ab_Run ab_mt 29 19 ls (ab_fv 0 (w.2 a) :: st) w := E_get rfl h
theorem e_29_19 {ls : ab_L} {st : List Value} {w : ab_W} {a : Nat} (h : ab_isF 2 1 (w.2 a) = true) : ab_Run ab_mt 29 19 ls (.ref a :: st) w = ab_Run ab_mt 29 22 ls (ab_fv 1 (w.2 a) :: st) w := E_get rfl h
theorem e_29_22 {ls : ab_L} {st : List Value} {w : ab_W} {a : Nat} (h : ab_isF 3 3 (w.2 a) = true) : ab_Run ab_mt 29 22 ls (.ref a :: st) w = ab_Run ab_mt 29 25 ls (ab_fv 3 (w.2 a) :: st) w := E_get rfl h
theorem e_29_25 {ls : ab_L} {st : List Value} {w : ab_W} {x y : Int32} : ab_Run ab_mt 29 25 ls (.int y :: .int x :: st) w = if y ≤ x then ab_Run ab_mt 29 52 ls st w else ab_Run ab_mt 29 28 ls st w := E_ic_ge rfl
theorem e_29_28 {ls : ab_L} {st : List Value} {w : ab_W} (h : ab_isR (ls 0) = true) : ab_Run ab_mt 29 28 ls st w = ab_Run ab_mt 29 29 ls (ab_gv (ls 0) :: st) w := E_loadr (n := 1) rfl h
theorem e_29_29 {ls : ab_L} {st : List Value} {w : ab_W} {a : Nat} (h : ab_isF 1 0 (w.2 a) = true) : ab_Run ab_mt 29 29 ls (.ref a :: st) w = ab_Run ab_mt 29 32 ls (ab_fv 0 (w.2 a) :: st) w := E_get rfl h
theorem e_29_32 {ls : ab_L} {st : List Value} {w : ab_W} {a : Nat} (h : ab_isF 2 1 (w.2 a) = true) : ab_Run ab_mt 29 32 ls (.ref a :: st) w = ab_Run ab_mt 29 35 ls (ab_fv 1 (w.2 a) :: st) w := E_get rfl h
theorem e_29_35 {ls : ab_L} {st : List Value} {w : ab_W} (h : ab_isI (ls 1) = true) : ab_Run ab_mt 29 35 ls st w = ab_Run ab_mt 29 36 ls (ab_gv (ls 1) :: st) w := E_loadi (n := 1) rfl h
theorem e_29_36 {ls : ab_L} {st : List Value} {w : ab_W} : ab_Run ab_mt 29 36 ls st w = ab_Run ab_mt 29 37 ls (.int (nI 1) :: st) w := E_push (n := 1) rfl
theorem e_29_37 {ls : ab_L} {st : List Value} {w : ab_W} {x y : Int32} : ab_Run ab_mt 29 37 ls (.int y :: .int x :: st) w = ab_Run ab_mt 29 38 ls (.int (x + y) :: st) w := E_ib (f := fun x y => x + y) rfl
theorem e_29_38 {ls : ab_L} {st : List Value} {w : ab_W} : ab_Run ab_mt 29 38 ls st w = ab_Run ab_mt 29 39 ls (.int (nI 0) :: st) w := E_push (n := 1) rfl
theorem e_29_39 {ls : ab_L} {st : List Value} {w : ab_W} {v0 v1 v2 : Value} (h1 : ab_recv ab_mt 53 [v0, v1, v2] w.2 = true) (h8 : ab_w8 st = true) : ab_Run ab_mt 29 39 ls (v2 :: v1 :: v0 :: st) w = ab_aft 53 29 39 ls st (ab_Cl 53 [v0, v1, v2] w) := E_call3 rfl h1 h8
theorem e_29_42 {ls : ab_L} {st : List Value} {w : ab_W} (h : ab_isI (ls 2) = true) : ab_Run ab_mt 29 42 ls st w = ab_Run ab_mt 29 43 ls (ab_gv (ls 2) :: st) w := E_loadi (n := 1) rfl h
theorem e_29_43 {ls : ab_L} {st : List Value} {w : ab_W} {x y : Int32} : ab_Run ab_mt 29 43 ls (.int y :: .int x :: st) w = if y < x then ab_Run ab_mt 29 52 ls st w else ab_Run ab_mt 29 46 ls st w := E_ic_gt rfl
theorem e_29_46 {ls : ab_L} {st : List Value} {w : ab_W} (h : ab_isI (ls 1) = true) : ab_Run ab_mt 29 46 ls st w = ab_Run ab_mt 29 49 (ab_l1 ls 1 (.int (ab_gi (ls 1) + (nI 1)))) st w := E_iinc rfl h
theorem e_29_49 {ls : ab_L} {st : List Value} {w : ab_W} : ab_Run ab_mt 29 49 ls st w = ab_Run ab_mt 29 12 ls st w := E_goto rfl
theorem e_29_52 {ls : ab_L} {st : List Value} {w : ab_W} (h : ab_isR (ls 0) = true) : ab_Run ab_mt 29 52 ls st w = ab_Run ab_mt 29 53 ls (ab_gv (ls 0) :: st) w := E_loadr (n := 1) rfl h
theorem e_29_53 {ls : ab_L} {st : List Value} {w : ab_W} {a : Nat} (h : ab_isF 1 3 (w.2 a) = true) : ab_Run ab_mt 29 53 ls (.ref a :: st) w = ab_Run ab_mt 29 56 ls (ab_fv 3 (w.2 a) :: st) w := E_get rfl h
theorem e_29_56 {ls : ab_L} {st : List Value} {w : ab_W} (h : ab_isI (ls 2) = true) : ab_Run ab_mt 29 56 ls st w = ab_Run ab_mt 29 57 ls (ab_gv (ls 2) :: st) w := E_loadi (n := 1) rfl h
theorem e_29_57 {ls : ab_L} {st : List Value} {w : ab_W} (h : ab_isI (ls 1) = true) : ab_Run ab_mt 29 57 ls st w = ab_Run ab_mt 29 58 ls (ab_gv (ls 1) :: st) w := E_loadi (n := 1) rfl h
theorem e_29_58 {ls : ab_L} {st : List Value} {w : ab_W} : ab_Run ab_mt 29 58 ls st w = ab_Run ab_mt 29 59 ls (.int (-1) :: st) w := E_push (n := 1) rfl
theorem e_29_59 {ls : ab_L} {st : List Value} {w : ab_W} {x y : Int32} : ab_Run ab_mt 29 59 ls (.int y :: .int x :: st) w = if x = y then ab_Run ab_mt 29 62 ls st w else ab_Run ab_mt 29 68 ls st w := E_ic_ne rfl
theorem e_29_62 {ls : ab_L} {st : List Value} {w : ab_W} : ab_Run ab_mt 29 62 ls st w = ab_Run ab_mt 29 65 ls (.int (nI 1200) :: st) w := E_push (n := 3) rfl
theorem e_29_65 {ls : ab_L} {st : List Value} {w : ab_W} : ab_Run ab_mt 29 65 ls st w = ab_Run ab_mt 29 74 ls st w := E_goto rfl
theorem e_29_68 {ls : ab_L} {st : List Value} {w : ab_W} (h : ab_isR (ls 0) = true) : ab_Run ab_mt 29 68 ls st w = ab_Run ab_mt 29 69 ls (ab_gv (ls 0) :: st) w := E_loadr (n := 1) rfl h
theorem e_29_69 {ls : ab_L} {st : List Value} {w : ab_W} (h : ab_isI (ls 1) = true) : ab_Run ab_mt 29 69 ls st w = ab_Run ab_mt 29 70 ls (ab_gv (ls 1) :: st) w := E_loadi (n := 1) rfl h
theorem e_29_70 {ls : ab_L} {st : List Value} {w : ab_W} (h : ab_isI (ls 2) = true) : ab_Run ab_mt 29 70 ls st w = ab_Run ab_mt 29 71 ls (ab_gv (ls 2) :: st) w := E_loadi (n := 1) rfl h
theorem e_29_71 {ls : ab_L} {st : List Value} {w : ab_W} {v0 v1 v2 : Value} (h1 : ab_recv ab_mt 30 [v0, v1, v2] w.2 = true) (h8 : ab_w8 st = true) : ab_Run ab_mt 29 71 ls (v2 :: v1 :: v0 :: st) w = ab_aft 30 29 71 ls st (ab_Cl 30 [v0, v1, v2] w) := E_call3 rfl h1 h8
theorem e_29_74 {ls : ab_L} {st : List Value} {w : ab_W} {a : Nat} {i x : Int32} (h : ab_inW i (w.2 a) = true) : ab_Run ab_mt 29 74 ls (.int x :: .int i :: .ref a :: st) w = ab_Run ab_mt 29 75 ls st (w.1, ab_up w.2 a (ab_sI i.toNatClampNeg x (w.2 a))) := E_iast rfl h
theorem e_29_75 {ls : ab_L} {st : List Value} {w : ab_W} (h : ab_isI (ls 2) = true) : ab_Run ab_mt 29 75 ls st w = ab_Run ab_mt 29 78 (ab_l1 ls 2 (.int (ab_gi (ls 2) + (nI 1)))) st w := E_iinc rfl h
theorem e_29_78 {ls : ab_L} {st : List Value} {w : ab_W} : ab_Run ab_mt 29 78 ls st w = ab_Run ab_mt 29 4 ls st w := E_goto rfl
theorem e_29_81 {ls : ab_L} {w : ab_W} : ab_Run ab_mt 29 81 ls [] w = some (.inl none, w) := E_ret0 rfl
theorem rv_29 {σ : ab_S} {t : Nat} : ab_recv ab_mt 29 [.ref t] σ = ab_isO 1 (σ t) := rfl
theorem e_30_0 {ls : ab_L} {st : List Value} {w : ab_W} (h : ab_isR (ls 0) = true) : ab_Run ab_mt 30 0 ls st w = ab_Run ab_mt 30 1 ls (ab_gv (ls 0) :: st) w := E_loadr (n := 1) rfl h
theorem e_30_1 {ls : ab_L} {st : List Value} {w : ab_W} {a : Nat} (h : ab_isF 1 0 (w.2 a) = true) : ab_Run ab_mt 30 1 ls (.ref a :: st) w = ab_Run ab_mt 30 4 ls (ab_fv 0 (w.2 a) :: st) w := E_get rfl h
theorem e_30_4 {ls : ab_L} {st : List Value} {w : ab_W} {a : Nat} (h : ab_isF 2 1 (w.2 a) = true) : ab_Run ab_mt 30 4 ls (.ref a :: st) w = ab_Run ab_mt 30 7 ls (ab_fv 1 (w.2 a) :: st) w := E_get rfl h
theorem e_30_7 {ls : ab_L} {st : List Value} {w : ab_W} {x : Nat} : ab_Run ab_mt 30 7 ls (.ref x :: st) w = ab_Run ab_mt 30 8 (ab_l1 ls 3 (.ref x)) st w := E_storr (n := 1) rfl
theorem e_30_8 {ls : ab_L} {st : List Value} {w : ab_W} (h : ab_isR (ls 3) = true) : ab_Run ab_mt 30 8 ls st w = ab_Run ab_mt 30 9 ls (ab_gv (ls 3) :: st) w := E_loadr (n := 1) rfl h
theorem e_30_9 {ls : ab_L} {st : List Value} {w : ab_W} (h : ab_isI (ls 1) = true) : ab_Run ab_mt 30 9 ls st w = ab_Run ab_mt 30 10 ls (ab_gv (ls 1) :: st) w := E_loadi (n := 1) rfl h
theorem e_30_10 {ls : ab_L} {st : List Value} {w : ab_W} : ab_Run ab_mt 30 10 ls st w = ab_Run ab_mt 30 11 ls (.int (nI 1) :: st) w := E_push (n := 1) rfl
theorem e_30_11 {ls : ab_L} {st : List Value} {w : ab_W} {v0 v1 v2 : Value} (h1 : ab_recv ab_mt 53 [v0, v1, v2] w.2 = true) (h8 : ab_w8 st = true) : ab_Run ab_mt 30 11 ls (v2 :: v1 :: v0 :: st) w = ab_aft 53 30 11 ls st (ab_Cl 53 [v0, v1, v2] w) := E_call3 rfl h1 h8
theorem e_30_14 {ls : ab_L} {st : List Value} {w : ab_W} {x : Int32} : ab_Run ab_mt 30 14 ls (.int x :: st) w = ab_Run ab_mt 30 16 (ab_l1 ls 4 (.int x)) st w := E_stori (n := 2) rfl
theorem e_30_16 {ls : ab_L} {st : List Value} {w : ab_W} (h : ab_isR (ls 3) = true) : ab_Run ab_mt 30 16 ls st w = ab_Run ab_mt 30 17 ls (ab_gv (ls 3) :: st) w := E_loadr (n := 1) rfl h
theorem e_30_17 {ls : ab_L} {st : List Value} {w : ab_W} (h : ab_isI (ls 1) = true) : ab_Run ab_mt 30 17 ls st w = ab_Run ab_mt 30 18 ls (ab_gv (ls 1) :: st) w := E_loadi (n := 1) rfl h
theorem e_30_18 {ls : ab_L} {st : List Value} {w : ab_W} : ab_Run ab_mt 30 18 ls st w = ab_Run ab_mt 30 19 ls (.int (nI 2) :: st) w := E_push (n := 1) rfl
theorem e_30_19 {ls : ab_L} {st : List Value} {w : ab_W} {v0 v1 v2 : Value} (h1 : ab_recv ab_mt 53 [v0, v1, v2] w.2 = true) (h8 : ab_w8 st = true) : ab_Run ab_mt 30 19 ls (v2 :: v1 :: v0 :: st) w = ab_aft 53 30 19 ls st (ab_Cl 53 [v0, v1, v2] w) := E_call3 rfl h1 h8
theorem e_30_22 {ls : ab_L} {st : List Value} {w : ab_W} {x : Int32} : ab_Run ab_mt 30 22 ls (.int x :: st) w = if x = 0 then ab_Run ab_mt 30 35 ls st w else ab_Run ab_mt 30 25 ls st w := E_if_eq rfl
theorem e_30_25 {ls : ab_L} {st : List Value} {w : ab_W} (h : ab_isI (ls 1) = true) : ab_Run ab_mt 30 25 ls st w = ab_Run ab_mt 30 26 ls (ab_gv (ls 1) :: st) w := E_loadi (n := 1) rfl h
theorem e_30_26 {ls : ab_L} {st : List Value} {w : ab_W} : ab_Run ab_mt 30 26 ls st w = ab_Run ab_mt 30 27 ls (.int (nI 1) :: st) w := E_push (n := 1) rfl
theorem e_30_27 {ls : ab_L} {st : List Value} {w : ab_W} {x y : Int32} : ab_Run ab_mt 30 27 ls (.int y :: .int x :: st) w = ab_Run ab_mt 30 28 ls (.int (x + y) :: st) w := E_ib (f := fun x y => x + y) rfl
theorem e_30_28 {ls : ab_L} {st : List Value} {w : ab_W} (h : ab_isR (ls 3) = true) : ab_Run ab_mt 30 28 ls st w = ab_Run ab_mt 30 29 ls (ab_gv (ls 3) :: st) w := E_loadr (n := 1) rfl h
theorem e_30_29 {ls : ab_L} {st : List Value} {w : ab_W} {a : Nat} (h : ab_isF 3 3 (w.2 a) = true) : ab_Run ab_mt 30 29 ls (.ref a :: st) w = ab_Run ab_mt 30 32 ls (ab_fv 3 (w.2 a) :: st) w := E_get rfl h
theorem e_30_32 {ls : ab_L} {st : List Value} {w : ab_W} {x y : Int32} : ab_Run ab_mt 30 32 ls (.int y :: .int x :: st) w = if x < y then ab_Run ab_mt 30 38 ls st w else ab_Run ab_mt 30 35 ls st w := E_ic_lt rfl
theorem e_30_35 {ls : ab_L} {st : List Value} {w : ab_W} (h : ab_isI (ls 4) = true) : ab_Run ab_mt 30 35 ls st w = ab_Run ab_mt 30 37 ls (ab_gv (ls 4) :: st) w := E_loadi (n := 2) rfl h
theorem e_30_37 {ls : ab_L} {w : ab_W} {x : Int32} : ab_Run ab_mt 30 37 ls [.int x] w = some (.inl (some (.int x)), w) := E_reti rfl
theorem e_30_38 {ls : ab_L} {st : List Value} {w : ab_W} (h : ab_isR (ls 3) = true) : ab_Run ab_mt 30 38 ls st w = ab_Run ab_mt 30 39 ls (ab_gv (ls 3) :: st) w := E_loadr (n := 1) rfl h
theorem e_30_39 {ls : ab_L} {st : List Value} {w : ab_W} (h : ab_isI (ls 1) = true) : ab_Run ab_mt 30 39 ls st w = ab_Run ab_mt 30 40 ls (ab_gv (ls 1) :: st) w := E_loadi (n := 1) rfl h
theorem e_30_40 {ls : ab_L} {st : List Value} {w : ab_W} : ab_Run ab_mt 30 40 ls st w = ab_Run ab_mt 30 41 ls (.int (nI 1) :: st) w := E_push (n := 1) rfl
theorem e_30_41 {ls : ab_L} {st : List Value} {w : ab_W} {x y : Int32} : ab_Run ab_mt 30 41 ls (.int y :: .int x :: st) w = ab_Run ab_mt 30 42 ls (.int (x + y) :: st) w := E_ib (f := fun x y => x + y) rfl
theorem e_30_42 {ls : ab_L} {st : List Value} {w : ab_W} : ab_Run ab_mt 30 42 ls st w = ab_Run ab_mt 30 43 ls (.int (nI 1) :: st) w := E_push (n := 1) rfl
theorem e_30_43 {ls : ab_L} {st : List Value} {w : ab_W} {v0 v1 v2 : Value} (h1 : ab_recv ab_mt 53 [v0, v1, v2] w.2 = true) (h8 : ab_w8 st = true) : ab_Run ab_mt 30 43 ls (v2 :: v1 :: v0 :: st) w = ab_aft 53 30 43 ls st (ab_Cl 53 [v0, v1, v2] w) := E_call3 rfl h1 h8
theorem e_30_46 {ls : ab_L} {st : List Value} {w : ab_W} (h : ab_isI (ls 4) = true) : ab_Run ab_mt 30 46 ls st w = ab_Run ab_mt 30 48 ls (ab_gv (ls 4) :: st) w := E_loadi (n := 2) rfl h
theorem e_30_48 {ls : ab_L} {st : List Value} {w : ab_W} {x y : Int32} : ab_Run ab_mt 30 48 ls (.int y :: .int x :: st) w = ab_Run ab_mt 30 49 ls (.int (x - y) :: st) w := E_ib (f := fun x y => x - y) rfl
theorem e_30_49 {ls : ab_L} {st : List Value} {w : ab_W} {x : Int32} : ab_Run ab_mt 30 49 ls (.int x :: st) w = ab_Run ab_mt 30 50 ls (.long x.toInt64 :: st) w := E_i2l rfl
theorem e_30_50 {ls : ab_L} {st : List Value} {w : ab_W} {x : Int64} : ab_Run ab_mt 30 50 ls (.long x :: st) w = ab_Run ab_mt 30 52 (ab_l2 ls 5 (.long x)) st w := E_storl (n := 2) rfl
theorem e_30_52 {ls : ab_L} {st : List Value} {w : ab_W} (h : ab_isR (ls 3) = true) : ab_Run ab_mt 30 52 ls st w = ab_Run ab_mt 30 53 ls (ab_gv (ls 3) :: st) w := E_loadr (n := 1) rfl h
theorem e_30_53 {ls : ab_L} {st : List Value} {w : ab_W} (h : ab_isI (ls 1) = true) : ab_Run ab_mt 30 53 ls st w = ab_Run ab_mt 30 54 ls (ab_gv (ls 1) :: st) w := E_loadi (n := 1) rfl h
theorem e_30_54 {ls : ab_L} {st : List Value} {w : ab_W} : ab_Run ab_mt 30 54 ls st w = ab_Run ab_mt 30 55 ls (.int (nI 0) :: st) w := E_push (n := 1) rfl
theorem e_30_55 {ls : ab_L} {st : List Value} {w : ab_W} {v0 v1 v2 : Value} (h1 : ab_recv ab_mt 53 [v0, v1, v2] w.2 = true) (h8 : ab_w8 st = true) : ab_Run ab_mt 30 55 ls (v2 :: v1 :: v0 :: st) w = ab_aft 53 30 55 ls st (ab_Cl 53 [v0, v1, v2] w) := E_call3 rfl h1 h8
theorem e_30_58 {ls : ab_L} {st : List Value} {w : ab_W} {x : Int32} : ab_Run ab_mt 30 58 ls (.int x :: st) w = ab_Run ab_mt 30 60 (ab_l1 ls 7 (.int x)) st w := E_stori (n := 2) rfl
theorem e_30_60 {ls : ab_L} {st : List Value} {w : ab_W} (h : ab_isR (ls 3) = true) : ab_Run ab_mt 30 60 ls st w = ab_Run ab_mt 30 61 ls (ab_gv (ls 3) :: st) w := E_loadr (n := 1) rfl h
theorem e_30_61 {ls : ab_L} {st : List Value} {w : ab_W} (h : ab_isI (ls 1) = true) : ab_Run ab_mt 30 61 ls st w = ab_Run ab_mt 30 62 ls (ab_gv (ls 1) :: st) w := E_loadi (n := 1) rfl h
theorem e_30_62 {ls : ab_L} {st : List Value} {w : ab_W} : ab_Run ab_mt 30 62 ls st w = ab_Run ab_mt 30 63 ls (.int (nI 1) :: st) w := E_push (n := 1) rfl
theorem e_30_63 {ls : ab_L} {st : List Value} {w : ab_W} {x y : Int32} : ab_Run ab_mt 30 63 ls (.int y :: .int x :: st) w = ab_Run ab_mt 30 64 ls (.int (x + y) :: st) w := E_ib (f := fun x y => x + y) rfl
theorem e_30_64 {ls : ab_L} {st : List Value} {w : ab_W} : ab_Run ab_mt 30 64 ls st w = ab_Run ab_mt 30 65 ls (.int (nI 0) :: st) w := E_push (n := 1) rfl
theorem e_30_65 {ls : ab_L} {st : List Value} {w : ab_W} {v0 v1 v2 : Value} (h1 : ab_recv ab_mt 53 [v0, v1, v2] w.2 = true) (h8 : ab_w8 st = true) : ab_Run ab_mt 30 65 ls (v2 :: v1 :: v0 :: st) w = ab_aft 53 30 65 ls st (ab_Cl 53 [v0, v1, v2] w) := E_call3 rfl h1 h8
theorem e_30_68 {ls : ab_L} {st : List Value} {w : ab_W} (h : ab_isI (ls 7) = true) : ab_Run ab_mt 30 68 ls st w = ab_Run ab_mt 30 70 ls (ab_gv (ls 7) :: st) w := E_loadi (n := 2) rfl h
theorem e_30_70 {ls : ab_L} {st : List Value} {w : ab_W} {x y : Int32} : ab_Run ab_mt 30 70 ls (.int y :: .int x :: st) w = ab_Run ab_mt 30 71 ls (.int (x - y) :: st) w := E_ib (f := fun x y => x - y) rfl
theorem e_30_71 {ls : ab_L} {st : List Value} {w : ab_W} {x : Int32} : ab_Run ab_mt 30 71 ls (.int x :: st) w = ab_Run ab_mt 30 73 (ab_l1 ls 8 (.int x)) st w := E_stori (n := 2) rfl
theorem e_30_73 {ls : ab_L} {st : List Value} {w : ab_W} (h : ab_isI (ls 4) = true) : ab_Run ab_mt 30 73 ls st w = ab_Run ab_mt 30 75 ls (ab_gv (ls 4) :: st) w := E_loadi (n := 2) rfl h
theorem e_30_75 {ls : ab_L} {st : List Value} {w : ab_W} (h : ab_isL (ls 5) = true) (h2 : (ls 6).isNone = true) : ab_Run ab_mt 30 75 ls st w = ab_Run ab_mt 30 77 ls (ab_gv (ls 5) :: st) w := E_loadl (n := 2) rfl h h2
theorem e_30_77 {ls : ab_L} {st : List Value} {w : ab_W} (h : ab_isI (ls 2) = true) : ab_Run ab_mt 30 77 ls st w = ab_Run ab_mt 30 78 ls (ab_gv (ls 2) :: st) w := E_loadi (n := 1) rfl h
theorem e_30_78 {ls : ab_L} {st : List Value} {w : ab_W} (h : ab_isI (ls 7) = true) : ab_Run ab_mt 30 78 ls st w = ab_Run ab_mt 30 80 ls (ab_gv (ls 7) :: st) w := E_loadi (n := 2) rfl h
theorem e_30_80 {ls : ab_L} {st : List Value} {w : ab_W} {x y : Int32} : ab_Run ab_mt 30 80 ls (.int y :: .int x :: st) w = ab_Run ab_mt 30 81 ls (.int (x - y) :: st) w := E_ib (f := fun x y => x - y) rfl
theorem e_30_81 {ls : ab_L} {st : List Value} {w : ab_W} {x : Int32} : ab_Run ab_mt 30 81 ls (.int x :: st) w = ab_Run ab_mt 30 82 ls (.long x.toInt64 :: st) w := E_i2l rfl
theorem e_30_82 {ls : ab_L} {st : List Value} {w : ab_W} {x y : Int64} : ab_Run ab_mt 30 82 ls (.long y :: .long x :: st) w = ab_Run ab_mt 30 83 ls (.long (x * y) :: st) w := E_lb (f := fun x y => x * y) rfl
theorem e_30_83 {ls : ab_L} {st : List Value} {w : ab_W} (h : ab_isI (ls 8) = true) : ab_Run ab_mt 30 83 ls st w = ab_Run ab_mt 30 85 ls (ab_gv (ls 8) :: st) w := E_loadi (n := 2) rfl h
theorem e_30_85 {ls : ab_L} {st : List Value} {w : ab_W} {x : Int32} : ab_Run ab_mt 30 85 ls (.int x :: st) w = ab_Run ab_mt 30 86 ls (.long x.toInt64 :: st) w := E_i2l rfl
theorem e_30_86 {ls : ab_L} {st : List Value} {w : ab_W} {v0 v1 : Value} (h1 : ab_recv ab_mt 25 [v0, v1] w.2 = true) (h8 : ab_w8 st = true) : ab_Run ab_mt 30 86 ls (v1 :: v0 :: st) w = ab_aft 25 30 86 ls st (ab_Cl 25 [v0, v1] w) := E_call2 rfl h1 h8
theorem e_30_89 {ls : ab_L} {st : List Value} {w : ab_W} {x : Int64} : ab_Run ab_mt 30 89 ls (.long x :: st) w = ab_Run ab_mt 30 90 ls (.int x.toInt32 :: st) w := E_l2i rfl
theorem e_30_90 {ls : ab_L} {st : List Value} {w : ab_W} {x y : Int32} : ab_Run ab_mt 30 90 ls (.int y :: .int x :: st) w = ab_Run ab_mt 30 91 ls (.int (x + y) :: st) w := E_ib (f := fun x y => x + y) rfl
theorem e_30_91 {ls : ab_L} {w : ab_W} {x : Int32} : ab_Run ab_mt 30 91 ls [.int x] w = some (.inl (some (.int x)), w) := E_reti rfl
theorem rv_30 {σ : ab_S} {t : Nat} {x0 : Int32} {x1 : Int32} : ab_recv ab_mt 30 [.ref t, .int x0, .int x1] σ = ab_isO 1 (σ t) := rfl
theorem e_31_0 {ls : ab_L} {st : List Value} {w : ab_W} (h : ab_isR (ls 0) = true) : ab_Run ab_mt 31 0 ls st w = ab_Run ab_mt 31 1 ls (ab_gv (ls 0) :: st) w := E_loadr (n := 1) rfl h
theorem e_31_1 {ls : ab_L} {st : List Value} {w : ab_W} : ab_Run ab_mt 31 1 ls st w = ab_Run ab_mt 31 2 ls (.long (lN 0) :: st) w := E_push (n := 1) rfl
theorem e_31_2 {ls : ab_L} {st : List Value} {w : ab_W} {a : Nat} {x : Int64} (h : ab_isF 1 7 (w.2 a) = true) : ab_Run ab_mt 31 2 ls (.long x :: .ref a :: st) w = ab_Run ab_mt 31 5 ls st (w.1, ab_up w.2 a (ab_sf 7 (.long x) (w.2 a))) := E_put rfl h rfl
theorem e_31_5 {ls : ab_L} {st : List Value} {w : ab_W} : ab_Run ab_mt 31 5 ls st w = ab_Run ab_mt 31 6 ls (.int (nI 0) :: st) w := E_push (n := 1) rfl
theorem e_31_6 {ls : ab_L} {st : List Value} {w : ab_W} {x : Int32} : ab_Run ab_mt 31 6 ls (.int x :: st) w = ab_Run ab_mt 31 7 (ab_l1 ls 1 (.int x)) st w := E_stori (n := 1) rfl
theorem e_31_7 {ls : ab_L} {st : List Value} {w : ab_W} (h : ab_isI (ls 1) = true) : ab_Run ab_mt 31 7 ls st w = ab_Run ab_mt 31 8 ls (ab_gv (ls 1) :: st) w := E_loadi (n := 1) rfl h
theorem e_31_8 {ls : ab_L} {st : List Value} {w : ab_W} (h : ab_isR (ls 0) = true) : ab_Run ab_mt 31 8 ls st w = ab_Run ab_mt 31 9 ls (ab_gv (ls 0) :: st) w := E_loadr (n := 1) rfl h
theorem e_31_9 {ls : ab_L} {st : List Value} {w : ab_W} {a : Nat} (h : ab_isF 1 0 (w.2 a) = true) : ab_Run ab_mt 31 9 ls (.ref a :: st) w = ab_Run ab_mt 31 12 ls (ab_fv 0 (w.2 a) :: st) w := E_get rfl h
theorem e_31_12 {ls : ab_L} {st : List Value} {w : ab_W} {a : Nat} (h : ab_isF 2 0 (w.2 a) = true) : ab_Run ab_mt 31 12 ls (.ref a :: st) w = ab_Run ab_mt 31 15 ls (ab_fv 0 (w.2 a) :: st) w := E_get rfl h
theorem e_31_15 {ls : ab_L} {st : List Value} {w : ab_W} {a : Nat} (h : ab_isF 3 3 (w.2 a) = true) : ab_Run ab_mt 31 15 ls (.ref a :: st) w = ab_Run ab_mt 31 18 ls (ab_fv 3 (w.2 a) :: st) w := E_get rfl h
theorem e_31_18 {ls : ab_L} {st : List Value} {w : ab_W} {x y : Int32} : ab_Run ab_mt 31 18 ls (.int y :: .int x :: st) w = if y ≤ x then ab_Run ab_mt 31 104 ls st w else ab_Run ab_mt 31 21 ls st w := E_ic_ge rfl
theorem e_31_21 {ls : ab_L} {st : List Value} {w : ab_W} (h : ab_isR (ls 0) = true) : ab_Run ab_mt 31 21 ls st w = ab_Run ab_mt 31 22 ls (ab_gv (ls 0) :: st) w := E_loadr (n := 1) rfl h
theorem e_31_22 {ls : ab_L} {st : List Value} {w : ab_W} (h : ab_isI (ls 1) = true) : ab_Run ab_mt 31 22 ls st w = ab_Run ab_mt 31 23 ls (ab_gv (ls 1) :: st) w := E_loadi (n := 1) rfl h
theorem e_31_23 {ls : ab_L} {st : List Value} {w : ab_W} {v0 v1 : Value} (h1 : ab_recv ab_mt 33 [v0, v1] w.2 = true) (h8 : ab_w8 st = true) : ab_Run ab_mt 31 23 ls (v1 :: v0 :: st) w = ab_aft 33 31 23 ls st (ab_Cl 33 [v0, v1] w) := E_call2 rfl h1 h8
theorem e_31_26 {ls : ab_L} {st : List Value} {w : ab_W} {x : Int32} : ab_Run ab_mt 31 26 ls (.int x :: st) w = ab_Run ab_mt 31 27 (ab_l1 ls 2 (.int x)) st w := E_stori (n := 1) rfl
theorem e_31_27 {ls : ab_L} {st : List Value} {w : ab_W} (h : ab_isI (ls 2) = true) : ab_Run ab_mt 31 27 ls st w = ab_Run ab_mt 31 28 ls (ab_gv (ls 2) :: st) w := E_loadi (n := 1) rfl h
theorem e_31_28 {ls : ab_L} {st : List Value} {w : ab_W} (h : ab_isR (ls 0) = true) : ab_Run ab_mt 31 28 ls st w = ab_Run ab_mt 31 29 ls (ab_gv (ls 0) :: st) w := E_loadr (n := 1) rfl h
theorem e_31_29 {ls : ab_L} {st : List Value} {w : ab_W} {a : Nat} (h : ab_isF 1 0 (w.2 a) = true) : ab_Run ab_mt 31 29 ls (.ref a :: st) w = ab_Run ab_mt 31 32 ls (ab_fv 0 (w.2 a) :: st) w := E_get rfl h
theorem e_31_32 {ls : ab_L} {st : List Value} {w : ab_W} {a : Nat} (h : ab_isF 2 0 (w.2 a) = true) : ab_Run ab_mt 31 32 ls (.ref a :: st) w = ab_Run ab_mt 31 35 ls (ab_fv 0 (w.2 a) :: st) w := E_get rfl h
theorem e_31_35 {ls : ab_L} {st : List Value} {w : ab_W} (h : ab_isI (ls 1) = true) : ab_Run ab_mt 31 35 ls st w = ab_Run ab_mt 31 36 ls (ab_gv (ls 1) :: st) w := E_loadi (n := 1) rfl h
theorem e_31_36 {ls : ab_L} {st : List Value} {w : ab_W} : ab_Run ab_mt 31 36 ls st w = ab_Run ab_mt 31 37 ls (.int (nI 0) :: st) w := E_push (n := 1) rfl
theorem e_31_37 {ls : ab_L} {st : List Value} {w : ab_W} {v0 v1 v2 : Value} (h1 : ab_recv ab_mt 53 [v0, v1, v2] w.2 = true) (h8 : ab_w8 st = true) : ab_Run ab_mt 31 37 ls (v2 :: v1 :: v0 :: st) w = ab_aft 53 31 37 ls st (ab_Cl 53 [v0, v1, v2] w) := E_call3 rfl h1 h8
theorem e_31_40 {ls : ab_L} {st : List Value} {w : ab_W} {x y : Int32} : ab_Run ab_mt 31 40 ls (.int y :: .int x :: st) w = ab_Run ab_mt 31 41 ls (.int (x + y) :: st) w := E_ib (f := fun x y => x + y) rfl
theorem e_31_41 {ls : ab_L} {st : List Value} {w : ab_W} (h : ab_isR (ls 0) = true) : ab_Run ab_mt 31 41 ls st w = ab_Run ab_mt 31 42 ls (ab_gv (ls 0) :: st) w := E_loadr (n := 1) rfl h
theorem e_31_42 {ls : ab_L} {st : List Value} {w : ab_W} {a : Nat} (h : ab_isF 1 6 (w.2 a) = true) : ab_Run ab_mt 31 42 ls (.ref a :: st) w = ab_Run ab_mt 31 45 ls (ab_fv 6 (w.2 a) :: st) w := E_get rfl h
theorem e_31_45 {ls : ab_L} {st : List Value} {w : ab_W} {x y : Int32} (h8 : ab_w8 st = true) : ab_Run ab_mt 31 45 ls (.int y :: .int x :: st) w = ab_Run ab_mt 31 48 ls (.int (if y < x then y else x) :: st) w := E_mini rfl h8
theorem e_31_48 {ls : ab_L} {st : List Value} {w : ab_W} {x : Int32} : ab_Run ab_mt 31 48 ls (.int x :: st) w = ab_Run ab_mt 31 49 (ab_l1 ls 3 (.int x)) st w := E_stori (n := 1) rfl
theorem e_31_49 {ls : ab_L} {st : List Value} {w : ab_W} (h : ab_isR (ls 0) = true) : ab_Run ab_mt 31 49 ls st w = ab_Run ab_mt 31 50 ls (ab_gv (ls 0) :: st) w := E_loadr (n := 1) rfl h
theorem e_31_50 {ls : ab_L} {st : List Value} {w : ab_W} (h : ab_isI (ls 2) = true) : ab_Run ab_mt 31 50 ls st w = ab_Run ab_mt 31 51 ls (ab_gv (ls 2) :: st) w := E_loadi (n := 1) rfl h
theorem e_31_51 {ls : ab_L} {st : List Value} {w : ab_W} (h : ab_isI (ls 3) = true) : ab_Run ab_mt 31 51 ls st w = ab_Run ab_mt 31 52 ls (ab_gv (ls 3) :: st) w := E_loadi (n := 1) rfl h
theorem e_31_52 {ls : ab_L} {st : List Value} {w : ab_W} (h : ab_isR (ls 0) = true) : ab_Run ab_mt 31 52 ls st w = ab_Run ab_mt 31 53 ls (ab_gv (ls 0) :: st) w := E_loadr (n := 1) rfl h
theorem e_31_53 {ls : ab_L} {st : List Value} {w : ab_W} {a : Nat} (h : ab_isF 1 0 (w.2 a) = true) : ab_Run ab_mt 31 53 ls (.ref a :: st) w = ab_Run ab_mt 31 56 ls (ab_fv 0 (w.2 a) :: st) w := E_get rfl h
theorem e_31_56 {ls : ab_L} {st : List Value} {w : ab_W} {a : Nat} (h : ab_isF 2 0 (w.2 a) = true) : ab_Run ab_mt 31 56 ls (.ref a :: st) w = ab_Run ab_mt 31 59 ls (ab_fv 0 (w.2 a) :: st) w := E_get rfl h
theorem e_31_59 {ls : ab_L} {st : List Value} {w : ab_W} (h : ab_isI (ls 1) = true) : ab_Run ab_mt 31 59 ls st w = ab_Run ab_mt 31 60 ls (ab_gv (ls 1) :: st) w := E_loadi (n := 1) rfl h
theorem e_31_60 {ls : ab_L} {st : List Value} {w : ab_W} : ab_Run ab_mt 31 60 ls st w = ab_Run ab_mt 31 61 ls (.int (nI 2) :: st) w := E_push (n := 1) rfl
theorem e_31_61 {ls : ab_L} {st : List Value} {w : ab_W} {v0 v1 v2 : Value} (h1 : ab_recv ab_mt 53 [v0, v1, v2] w.2 = true) (h8 : ab_w8 st = true) : ab_Run ab_mt 31 61 ls (v2 :: v1 :: v0 :: st) w = ab_aft 53 31 61 ls st (ab_Cl 53 [v0, v1, v2] w) := E_call3 rfl h1 h8
theorem e_31_64 {ls : ab_L} {st : List Value} {w : ab_W} {x : Int32} : ab_Run ab_mt 31 64 ls (.int x :: st) w = ab_Run ab_mt 31 65 ls (.long x.toInt64 :: st) w := E_i2l rfl
theorem e_31_65 {ls : ab_L} {st : List Value} {w : ab_W} : ab_Run ab_mt 31 65 ls st w = ab_Run ab_mt 31 68 ls (.long (lN 1000) :: st) w := E_push (n := 3) rfl
theorem e_31_68 {ls : ab_L} {st : List Value} {w : ab_W} {x y : Int64} : ab_Run ab_mt 31 68 ls (.long y :: .long x :: st) w = ab_Run ab_mt 31 69 ls (.long (x * y) :: st) w := E_lb (f := fun x y => x * y) rfl
theorem e_31_69 {ls : ab_L} {st : List Value} {w : ab_W} {v0 v1 v2 v3 : Value} (h1 : ab_recv ab_mt 32 [v0, v1, v2, v3] w.2 = true) (h8 : ab_w8 st = true) : ab_Run ab_mt 31 69 ls (v3 :: v2 :: v1 :: v0 :: st) w = ab_aft 32 31 69 ls st (ab_Cl 32 [v0, v1, v2, v3] w) := E_call4 rfl h1 h8
theorem e_31_72 {ls : ab_L} {st : List Value} {w : ab_W} (h : ab_isR (ls 0) = true) : ab_Run ab_mt 31 72 ls st w = ab_Run ab_mt 31 73 ls (ab_gv (ls 0) :: st) w := E_loadr (n := 1) rfl h
theorem e_31_73 {ls : ab_L} {st : List Value} {w : ab_W} {x : Nat} : ab_Run ab_mt 31 73 ls (.ref x :: st) w = ab_Run ab_mt 31 74 ls (.ref x :: .ref x :: st) w := E_dup_r rfl
theorem e_31_74 {ls : ab_L} {st : List Value} {w : ab_W} {a : Nat} (h : ab_isF 1 7 (w.2 a) = true) : ab_Run ab_mt 31 74 ls (.ref a :: st) w = ab_Run ab_mt 31 77 ls (ab_fv 7 (w.2 a) :: st) w := E_get rfl h
theorem e_31_77 {ls : ab_L} {st : List Value} {w : ab_W} (h : ab_isR (ls 0) = true) : ab_Run ab_mt 31 77 ls st w = ab_Run ab_mt 31 78 ls (ab_gv (ls 0) :: st) w := E_loadr (n := 1) rfl h
theorem e_31_78 {ls : ab_L} {st : List Value} {w : ab_W} {a : Nat} (h : ab_isF 1 0 (w.2 a) = true) : ab_Run ab_mt 31 78 ls (.ref a :: st) w = ab_Run ab_mt 31 81 ls (ab_fv 0 (w.2 a) :: st) w := E_get rfl h
theorem e_31_81 {ls : ab_L} {st : List Value} {w : ab_W} {a : Nat} (h : ab_isF 2 0 (w.2 a) = true) : ab_Run ab_mt 31 81 ls (.ref a :: st) w = ab_Run ab_mt 31 84 ls (ab_fv 0 (w.2 a) :: st) w := E_get rfl h
theorem e_31_84 {ls : ab_L} {st : List Value} {w : ab_W} (h : ab_isI (ls 1) = true) : ab_Run ab_mt 31 84 ls st w = ab_Run ab_mt 31 85 ls (ab_gv (ls 1) :: st) w := E_loadi (n := 1) rfl h
theorem e_31_85 {ls : ab_L} {st : List Value} {w : ab_W} : ab_Run ab_mt 31 85 ls st w = ab_Run ab_mt 31 86 ls (.int (nI 3) :: st) w := E_push (n := 1) rfl
theorem e_31_86 {ls : ab_L} {st : List Value} {w : ab_W} {v0 v1 v2 : Value} (h1 : ab_recv ab_mt 53 [v0, v1, v2] w.2 = true) (h8 : ab_w8 st = true) : ab_Run ab_mt 31 86 ls (v2 :: v1 :: v0 :: st) w = ab_aft 53 31 86 ls st (ab_Cl 53 [v0, v1, v2] w) := E_call3 rfl h1 h8
theorem e_31_89 {ls : ab_L} {st : List Value} {w : ab_W} {x : Int32} : ab_Run ab_mt 31 89 ls (.int x :: st) w = ab_Run ab_mt 31 90 ls (.long x.toInt64 :: st) w := E_i2l rfl
theorem e_31_90 {ls : ab_L} {st : List Value} {w : ab_W} : ab_Run ab_mt 31 90 ls st w = ab_Run ab_mt 31 93 ls (.long (lN 1000) :: st) w := E_push (n := 3) rfl
theorem e_31_93 {ls : ab_L} {st : List Value} {w : ab_W} {x y : Int64} : ab_Run ab_mt 31 93 ls (.long y :: .long x :: st) w = ab_Run ab_mt 31 94 ls (.long (x * y) :: st) w := E_lb (f := fun x y => x * y) rfl
theorem e_31_94 {ls : ab_L} {st : List Value} {w : ab_W} {x y : Int64} : ab_Run ab_mt 31 94 ls (.long y :: .long x :: st) w = ab_Run ab_mt 31 95 ls (.long (x + y) :: st) w := E_lb (f := fun x y => x + y) rfl
theorem e_31_95 {ls : ab_L} {st : List Value} {w : ab_W} {a : Nat} {x : Int64} (h : ab_isF 1 7 (w.2 a) = true) : ab_Run ab_mt 31 95 ls (.long x :: .ref a :: st) w = ab_Run ab_mt 31 98 ls st (w.1, ab_up w.2 a (ab_sf 7 (.long x) (w.2 a))) := E_put rfl h rfl
theorem e_31_98 {ls : ab_L} {st : List Value} {w : ab_W} (h : ab_isI (ls 1) = true) : ab_Run ab_mt 31 98 ls st w = ab_Run ab_mt 31 101 (ab_l1 ls 1 (.int (ab_gi (ls 1) + (nI 1)))) st w := E_iinc rfl h
theorem e_31_101 {ls : ab_L} {st : List Value} {w : ab_W} : ab_Run ab_mt 31 101 ls st w = ab_Run ab_mt 31 7 ls st w := E_goto rfl
theorem e_31_104 {ls : ab_L} {w : ab_W} : ab_Run ab_mt 31 104 ls [] w = some (.inl none, w) := E_ret0 rfl
theorem rv_31 {σ : ab_S} {t : Nat} : ab_recv ab_mt 31 [.ref t] σ = ab_isO 1 (σ t) := rfl
theorem e_32_0 {ls : ab_L} {st : List Value} {w : ab_W} : ab_Run ab_mt 32 0 ls st w = ab_Run ab_mt 32 1 ls (.long (lN 0) :: st) w := E_push (n := 1) rfl
theorem e_32_1 {ls : ab_L} {st : List Value} {w : ab_W} {x : Int64} : ab_Run ab_mt 32 1 ls (.long x :: st) w = ab_Run ab_mt 32 3 (ab_l2 ls 5 (.long x)) st w := E_storl (n := 2) rfl
theorem e_32_3 {ls : ab_L} {st : List Value} {w : ab_W} (h : ab_isI (ls 1) = true) : ab_Run ab_mt 32 3 ls st w = ab_Run ab_mt 32 4 ls (ab_gv (ls 1) :: st) w := E_loadi (n := 1) rfl h
theorem e_32_4 {ls : ab_L} {st : List Value} {w : ab_W} {x : Int32} : ab_Run ab_mt 32 4 ls (.int x :: st) w = ab_Run ab_mt 32 6 (ab_l1 ls 7 (.int x)) st w := E_stori (n := 2) rfl
theorem e_32_6 {ls : ab_L} {st : List Value} {w : ab_W} (h : ab_isI (ls 7) = true) : ab_Run ab_mt 32 6 ls st w = ab_Run ab_mt 32 8 ls (ab_gv (ls 7) :: st) w := E_loadi (n := 2) rfl h
theorem e_32_8 {ls : ab_L} {st : List Value} {w : ab_W} (h : ab_isI (ls 2) = true) : ab_Run ab_mt 32 8 ls st w = ab_Run ab_mt 32 9 ls (ab_gv (ls 2) :: st) w := E_loadi (n := 1) rfl h
theorem e_32_9 {ls : ab_L} {st : List Value} {w : ab_W} {x y : Int32} : ab_Run ab_mt 32 9 ls (.int y :: .int x :: st) w = if y ≤ x then ab_Run ab_mt 32 29 ls st w else ab_Run ab_mt 32 12 ls st w := E_ic_ge rfl
theorem e_32_12 {ls : ab_L} {st : List Value} {w : ab_W} (h : ab_isL (ls 5) = true) (h2 : (ls 6).isNone = true) : ab_Run ab_mt 32 12 ls st w = ab_Run ab_mt 32 14 ls (ab_gv (ls 5) :: st) w := E_loadl (n := 2) rfl h h2
theorem e_32_14 {ls : ab_L} {st : List Value} {w : ab_W} (h : ab_isR (ls 0) = true) : ab_Run ab_mt 32 14 ls st w = ab_Run ab_mt 32 15 ls (ab_gv (ls 0) :: st) w := E_loadr (n := 1) rfl h
theorem e_32_15 {ls : ab_L} {st : List Value} {w : ab_W} (h : ab_isI (ls 7) = true) : ab_Run ab_mt 32 15 ls st w = ab_Run ab_mt 32 17 ls (ab_gv (ls 7) :: st) w := E_loadi (n := 2) rfl h
theorem e_32_17 {ls : ab_L} {st : List Value} {w : ab_W} {v0 v1 : Value} (h1 : ab_recv ab_mt 37 [v0, v1] w.2 = true) (h8 : ab_w8 st = true) : ab_Run ab_mt 32 17 ls (v1 :: v0 :: st) w = ab_aft 37 32 17 ls st (ab_Cl 37 [v0, v1] w) := E_call2 rfl h1 h8
theorem e_32_20 {ls : ab_L} {st : List Value} {w : ab_W} {x y : Int64} : ab_Run ab_mt 32 20 ls (.long y :: .long x :: st) w = ab_Run ab_mt 32 21 ls (.long (x + y) :: st) w := E_lb (f := fun x y => x + y) rfl
theorem e_32_21 {ls : ab_L} {st : List Value} {w : ab_W} {x : Int64} : ab_Run ab_mt 32 21 ls (.long x :: st) w = ab_Run ab_mt 32 23 (ab_l2 ls 5 (.long x)) st w := E_storl (n := 2) rfl
theorem e_32_23 {ls : ab_L} {st : List Value} {w : ab_W} (h : ab_isI (ls 7) = true) : ab_Run ab_mt 32 23 ls st w = ab_Run ab_mt 32 26 (ab_l1 ls 7 (.int (ab_gi (ls 7) + (nI 1)))) st w := E_iinc rfl h
theorem e_32_26 {ls : ab_L} {st : List Value} {w : ab_W} : ab_Run ab_mt 32 26 ls st w = ab_Run ab_mt 32 6 ls st w := E_goto rfl
theorem e_32_29 {ls : ab_L} {st : List Value} {w : ab_W} (h : ab_isL (ls 3) = true) (h2 : (ls 4).isNone = true) : ab_Run ab_mt 32 29 ls st w = ab_Run ab_mt 32 30 ls (ab_gv (ls 3) :: st) w := E_loadl (n := 1) rfl h h2
theorem e_32_30 {ls : ab_L} {st : List Value} {w : ab_W} : ab_Run ab_mt 32 30 ls st w = ab_Run ab_mt 32 31 ls (.long (lN 0) :: st) w := E_push (n := 1) rfl
theorem e_32_31 {ls : ab_L} {st : List Value} {w : ab_W} {x y : Int64} : ab_Run ab_mt 32 31 ls (.long y :: .long x :: st) w = ab_Run ab_mt 32 32 ls (.int (lg_cmp x y) :: st) w := E_lcmp rfl
theorem e_32_32 {ls : ab_L} {st : List Value} {w : ab_W} {x : Int32} : ab_Run ab_mt 32 32 ls (.int x :: st) w = if x ≤ 0 then ab_Run ab_mt 32 39 ls st w else ab_Run ab_mt 32 35 ls st w := E_if_le rfl
theorem e_32_35 {ls : ab_L} {st : List Value} {w : ab_W} (h : ab_isL (ls 3) = true) (h2 : (ls 4).isNone = true) : ab_Run ab_mt 32 35 ls st w = ab_Run ab_mt 32 36 ls (ab_gv (ls 3) :: st) w := E_loadl (n := 1) rfl h h2
theorem e_32_36 {ls : ab_L} {st : List Value} {w : ab_W} : ab_Run ab_mt 32 36 ls st w = ab_Run ab_mt 32 41 ls st w := E_goto rfl
theorem e_32_39 {ls : ab_L} {st : List Value} {w : ab_W} (h : ab_isL (ls 5) = true) (h2 : (ls 6).isNone = true) : ab_Run ab_mt 32 39 ls st w = ab_Run ab_mt 32 41 ls (ab_gv (ls 5) :: st) w := E_loadl (n := 2) rfl h h2
theorem e_32_41 {ls : ab_L} {st : List Value} {w : ab_W} {x : Int64} : ab_Run ab_mt 32 41 ls (.long x :: st) w = ab_Run ab_mt 32 43 (ab_l2 ls 7 (.long x)) st w := E_storl (n := 2) rfl
theorem e_32_43 {ls : ab_L} {st : List Value} {w : ab_W} : ab_Run ab_mt 32 43 ls st w = ab_Run ab_mt 32 44 ls (.long (lN 0) :: st) w := E_push (n := 1) rfl
theorem e_32_44 {ls : ab_L} {st : List Value} {w : ab_W} {x : Int64} : ab_Run ab_mt 32 44 ls (.long x :: st) w = ab_Run ab_mt 32 46 (ab_l2 ls 9 (.long x)) st w := E_storl (n := 2) rfl
theorem e_32_46 {ls : ab_L} {st : List Value} {w : ab_W} : ab_Run ab_mt 32 46 ls st w = ab_Run ab_mt 32 47 ls (.long (lN 0) :: st) w := E_push (n := 1) rfl
theorem e_32_47 {ls : ab_L} {st : List Value} {w : ab_W} {x : Int64} : ab_Run ab_mt 32 47 ls (.long x :: st) w = ab_Run ab_mt 32 49 (ab_l2 ls 11 (.long x)) st w := E_storl (n := 2) rfl
theorem e_32_49 {ls : ab_L} {st : List Value} {w : ab_W} (h : ab_isI (ls 1) = true) : ab_Run ab_mt 32 49 ls st w = ab_Run ab_mt 32 50 ls (ab_gv (ls 1) :: st) w := E_loadi (n := 1) rfl h
theorem e_32_50 {ls : ab_L} {st : List Value} {w : ab_W} {x : Int32} : ab_Run ab_mt 32 50 ls (.int x :: st) w = ab_Run ab_mt 32 52 (ab_l1 ls 13 (.int x)) st w := E_stori (n := 2) rfl
theorem e_32_52 {ls : ab_L} {st : List Value} {w : ab_W} (h : ab_isI (ls 13) = true) : ab_Run ab_mt 32 52 ls st w = ab_Run ab_mt 32 54 ls (ab_gv (ls 13) :: st) w := E_loadi (n := 2) rfl h
theorem e_32_54 {ls : ab_L} {st : List Value} {w : ab_W} (h : ab_isI (ls 2) = true) : ab_Run ab_mt 32 54 ls st w = ab_Run ab_mt 32 55 ls (ab_gv (ls 2) :: st) w := E_loadi (n := 1) rfl h
theorem e_32_55 {ls : ab_L} {st : List Value} {w : ab_W} {x y : Int32} : ab_Run ab_mt 32 55 ls (.int y :: .int x :: st) w = if y ≤ x then ab_Run ab_mt 32 117 ls st w else ab_Run ab_mt 32 58 ls st w := E_ic_ge rfl
theorem e_32_58 {ls : ab_L} {st : List Value} {w : ab_W} (h : ab_isL (ls 9) = true) (h2 : (ls 10).isNone = true) : ab_Run ab_mt 32 58 ls st w = ab_Run ab_mt 32 60 ls (ab_gv (ls 9) :: st) w := E_loadl (n := 2) rfl h h2
theorem e_32_60 {ls : ab_L} {st : List Value} {w : ab_W} (h : ab_isR (ls 0) = true) : ab_Run ab_mt 32 60 ls st w = ab_Run ab_mt 32 61 ls (ab_gv (ls 0) :: st) w := E_loadr (n := 1) rfl h
theorem e_32_61 {ls : ab_L} {st : List Value} {w : ab_W} (h : ab_isI (ls 13) = true) : ab_Run ab_mt 32 61 ls st w = ab_Run ab_mt 32 63 ls (ab_gv (ls 13) :: st) w := E_loadi (n := 2) rfl h
theorem e_32_63 {ls : ab_L} {st : List Value} {w : ab_W} {v0 v1 : Value} (h1 : ab_recv ab_mt 37 [v0, v1] w.2 = true) (h8 : ab_w8 st = true) : ab_Run ab_mt 32 63 ls (v1 :: v0 :: st) w = ab_aft 37 32 63 ls st (ab_Cl 37 [v0, v1] w) := E_call2 rfl h1 h8
theorem e_32_66 {ls : ab_L} {st : List Value} {w : ab_W} {x y : Int64} : ab_Run ab_mt 32 66 ls (.long y :: .long x :: st) w = ab_Run ab_mt 32 67 ls (.long (x + y) :: st) w := E_lb (f := fun x y => x + y) rfl
theorem e_32_67 {ls : ab_L} {st : List Value} {w : ab_W} {x : Int64} : ab_Run ab_mt 32 67 ls (.long x :: st) w = ab_Run ab_mt 32 69 (ab_l2 ls 9 (.long x)) st w := E_storl (n := 2) rfl
theorem e_32_69 {ls : ab_L} {st : List Value} {w : ab_W} (h : ab_isL (ls 7) = true) (h2 : (ls 8).isNone = true) : ab_Run ab_mt 32 69 ls st w = ab_Run ab_mt 32 71 ls (ab_gv (ls 7) :: st) w := E_loadl (n := 2) rfl h h2
theorem e_32_71 {ls : ab_L} {st : List Value} {w : ab_W} (h : ab_isL (ls 9) = true) (h2 : (ls 10).isNone = true) : ab_Run ab_mt 32 71 ls st w = ab_Run ab_mt 32 73 ls (ab_gv (ls 9) :: st) w := E_loadl (n := 2) rfl h h2
theorem e_32_73 {ls : ab_L} {st : List Value} {w : ab_W} {x y : Int64} : ab_Run ab_mt 32 73 ls (.long y :: .long x :: st) w = ab_Run ab_mt 32 74 ls (.long (x * y) :: st) w := E_lb (f := fun x y => x * y) rfl
theorem e_32_74 {ls : ab_L} {st : List Value} {w : ab_W} (h : ab_isL (ls 5) = true) (h2 : (ls 6).isNone = true) : ab_Run ab_mt 32 74 ls st w = ab_Run ab_mt 32 76 ls (ab_gv (ls 5) :: st) w := E_loadl (n := 2) rfl h h2
theorem e_32_76 {ls : ab_L} {st : List Value} {w : ab_W} {v0 v1 : Value} (h1 : ab_recv ab_mt 25 [v0, v1] w.2 = true) (h8 : ab_w8 st = true) : ab_Run ab_mt 32 76 ls (v1 :: v0 :: st) w = ab_aft 25 32 76 ls st (ab_Cl 25 [v0, v1] w) := E_call2 rfl h1 h8
theorem e_32_79 {ls : ab_L} {st : List Value} {w : ab_W} {x : Int64} : ab_Run ab_mt 32 79 ls (.long x :: st) w = ab_Run ab_mt 32 81 (ab_l2 ls 14 (.long x)) st w := E_storl (n := 2) rfl
theorem e_32_81 {ls : ab_L} {st : List Value} {w : ab_W} (h : ab_isR (ls 0) = true) : ab_Run ab_mt 32 81 ls st w = ab_Run ab_mt 32 82 ls (ab_gv (ls 0) :: st) w := E_loadr (n := 1) rfl h
theorem e_32_82 {ls : ab_L} {st : List Value} {w : ab_W} {a : Nat} (h : ab_isF 1 4 (w.2 a) = true) : ab_Run ab_mt 32 82 ls (.ref a :: st) w = ab_Run ab_mt 32 85 ls (ab_fv 4 (w.2 a) :: st) w := E_get rfl h
theorem e_32_85 {ls : ab_L} {st : List Value} {w : ab_W} (h : ab_isI (ls 13) = true) : ab_Run ab_mt 32 85 ls st w = ab_Run ab_mt 32 87 ls (ab_gv (ls 13) :: st) w := E_loadi (n := 2) rfl h
theorem e_32_87 {ls : ab_L} {st : List Value} {w : ab_W} (h : ab_isR (ls 0) = true) : ab_Run ab_mt 32 87 ls st w = ab_Run ab_mt 32 88 ls (ab_gv (ls 0) :: st) w := E_loadr (n := 1) rfl h
theorem e_32_88 {ls : ab_L} {st : List Value} {w : ab_W} {a : Nat} (h : ab_isF 1 7 (w.2 a) = true) : ab_Run ab_mt 32 88 ls (.ref a :: st) w = ab_Run ab_mt 32 91 ls (ab_fv 7 (w.2 a) :: st) w := E_get rfl h
theorem e_32_91 {ls : ab_L} {st : List Value} {w : ab_W} (h : ab_isL (ls 11) = true) (h2 : (ls 12).isNone = true) : ab_Run ab_mt 32 91 ls st w = ab_Run ab_mt 32 93 ls (ab_gv (ls 11) :: st) w := E_loadl (n := 2) rfl h h2
theorem e_32_93 {ls : ab_L} {st : List Value} {w : ab_W} {x y : Int64} : ab_Run ab_mt 32 93 ls (.long y :: .long x :: st) w = ab_Run ab_mt 32 94 ls (.long (x + y) :: st) w := E_lb (f := fun x y => x + y) rfl
theorem e_32_94 {ls : ab_L} {st : List Value} {w : ab_W} {a : Nat} {i : Int32} {x : Int64} (h : ab_inL i (w.2 a) = true) : ab_Run ab_mt 32 94 ls (.long x :: .int i :: .ref a :: st) w = ab_Run ab_mt 32 95 ls st (w.1, ab_up w.2 a (ab_sL i.toNatClampNeg x (w.2 a))) := E_last rfl h
theorem e_32_95 {ls : ab_L} {st : List Value} {w : ab_W} (h : ab_isR (ls 0) = true) : ab_Run ab_mt 32 95 ls st w = ab_Run ab_mt 32 96 ls (ab_gv (ls 0) :: st) w := E_loadr (n := 1) rfl h
theorem e_32_96 {ls : ab_L} {st : List Value} {w : ab_W} {a : Nat} (h : ab_isF 1 5 (w.2 a) = true) : ab_Run ab_mt 32 96 ls (.ref a :: st) w = ab_Run ab_mt 32 99 ls (ab_fv 5 (w.2 a) :: st) w := E_get rfl h
theorem e_32_99 {ls : ab_L} {st : List Value} {w : ab_W} (h : ab_isI (ls 13) = true) : ab_Run ab_mt 32 99 ls st w = ab_Run ab_mt 32 101 ls (ab_gv (ls 13) :: st) w := E_loadi (n := 2) rfl h
theorem e_32_101 {ls : ab_L} {st : List Value} {w : ab_W} (h : ab_isL (ls 14) = true) (h2 : (ls 15).isNone = true) : ab_Run ab_mt 32 101 ls st w = ab_Run ab_mt 32 103 ls (ab_gv (ls 14) :: st) w := E_loadl (n := 2) rfl h h2
theorem e_32_103 {ls : ab_L} {st : List Value} {w : ab_W} (h : ab_isL (ls 11) = true) (h2 : (ls 12).isNone = true) : ab_Run ab_mt 32 103 ls st w = ab_Run ab_mt 32 105 ls (ab_gv (ls 11) :: st) w := E_loadl (n := 2) rfl h h2
theorem e_32_105 {ls : ab_L} {st : List Value} {w : ab_W} {x y : Int64} : ab_Run ab_mt 32 105 ls (.long y :: .long x :: st) w = ab_Run ab_mt 32 106 ls (.long (x - y) :: st) w := E_lb (f := fun x y => x - y) rfl
theorem e_32_106 {ls : ab_L} {st : List Value} {w : ab_W} {a : Nat} {i : Int32} {x : Int64} (h : ab_inL i (w.2 a) = true) : ab_Run ab_mt 32 106 ls (.long x :: .int i :: .ref a :: st) w = ab_Run ab_mt 32 107 ls st (w.1, ab_up w.2 a (ab_sL i.toNatClampNeg x (w.2 a))) := E_last rfl h
theorem e_32_107 {ls : ab_L} {st : List Value} {w : ab_W} (h : ab_isL (ls 14) = true) (h2 : (ls 15).isNone = true) : ab_Run ab_mt 32 107 ls st w = ab_Run ab_mt 32 109 ls (ab_gv (ls 14) :: st) w := E_loadl (n := 2) rfl h h2
theorem e_32_109 {ls : ab_L} {st : List Value} {w : ab_W} {x : Int64} : ab_Run ab_mt 32 109 ls (.long x :: st) w = ab_Run ab_mt 32 111 (ab_l2 ls 11 (.long x)) st w := E_storl (n := 2) rfl
theorem e_32_111 {ls : ab_L} {st : List Value} {w : ab_W} (h : ab_isI (ls 13) = true) : ab_Run ab_mt 32 111 ls st w = ab_Run ab_mt 32 114 (ab_l1 ls 13 (.int (ab_gi (ls 13) + (nI 1)))) st w := E_iinc rfl h
theorem e_32_114 {ls : ab_L} {st : List Value} {w : ab_W} : ab_Run ab_mt 32 114 ls st w = ab_Run ab_mt 32 52 ls st w := E_goto rfl
theorem e_32_117 {ls : ab_L} {st : List Value} {w : ab_W} (h : ab_isR (ls 0) = true) : ab_Run ab_mt 32 117 ls st w = ab_Run ab_mt 32 118 ls (ab_gv (ls 0) :: st) w := E_loadr (n := 1) rfl h
theorem e_32_118 {ls : ab_L} {st : List Value} {w : ab_W} {x : Nat} : ab_Run ab_mt 32 118 ls (.ref x :: st) w = ab_Run ab_mt 32 119 ls (.ref x :: .ref x :: st) w := E_dup_r rfl
theorem e_32_119 {ls : ab_L} {st : List Value} {w : ab_W} {a : Nat} (h : ab_isF 1 7 (w.2 a) = true) : ab_Run ab_mt 32 119 ls (.ref a :: st) w = ab_Run ab_mt 32 122 ls (ab_fv 7 (w.2 a) :: st) w := E_get rfl h
theorem e_32_122 {ls : ab_L} {st : List Value} {w : ab_W} (h : ab_isL (ls 7) = true) (h2 : (ls 8).isNone = true) : ab_Run ab_mt 32 122 ls st w = ab_Run ab_mt 32 124 ls (ab_gv (ls 7) :: st) w := E_loadl (n := 2) rfl h h2
theorem e_32_124 {ls : ab_L} {st : List Value} {w : ab_W} {x y : Int64} : ab_Run ab_mt 32 124 ls (.long y :: .long x :: st) w = ab_Run ab_mt 32 125 ls (.long (x + y) :: st) w := E_lb (f := fun x y => x + y) rfl
theorem e_32_125 {ls : ab_L} {st : List Value} {w : ab_W} {a : Nat} {x : Int64} (h : ab_isF 1 7 (w.2 a) = true) : ab_Run ab_mt 32 125 ls (.long x :: .ref a :: st) w = ab_Run ab_mt 32 128 ls st (w.1, ab_up w.2 a (ab_sf 7 (.long x) (w.2 a))) := E_put rfl h rfl
theorem e_32_128 {ls : ab_L} {w : ab_W} : ab_Run ab_mt 32 128 ls [] w = some (.inl none, w) := E_ret0 rfl
theorem rv_32 {σ : ab_S} {t : Nat} {x0 : Int32} {x1 : Int32} {x2 : Int64} : ab_recv ab_mt 32 [.ref t, .int x0, .int x1, .long x2] σ = ab_isO 1 (σ t) := rfl
theorem e_33_0 {ls : ab_L} {st : List Value} {w : ab_W} (h : ab_isI (ls 1) = true) : ab_Run ab_mt 33 0 ls st w = ab_Run ab_mt 33 1 ls (ab_gv (ls 1) :: st) w := E_loadi (n := 1) rfl h
theorem e_33_1 {ls : ab_L} {st : List Value} {w : ab_W} {x : Int32} : ab_Run ab_mt 33 1 ls (.int x :: st) w = if x < 0 then ab_Run ab_mt 33 19 ls st w else ab_Run ab_mt 33 4 ls st w := E_if_lt rfl
theorem e_33_4 {ls : ab_L} {st : List Value} {w : ab_W} (h : ab_isI (ls 1) = true) : ab_Run ab_mt 33 4 ls st w = ab_Run ab_mt 33 5 ls (ab_gv (ls 1) :: st) w := E_loadi (n := 1) rfl h
theorem e_33_5 {ls : ab_L} {st : List Value} {w : ab_W} : ab_Run ab_mt 33 5 ls st w = ab_Run ab_mt 33 7 ls (.int (nI 24) :: st) w := E_push (n := 2) rfl
theorem e_33_7 {ls : ab_L} {st : List Value} {w : ab_W} {x y : Int32} : ab_Run ab_mt 33 7 ls (.int y :: .int x :: st) w = if y ≤ x then ab_Run ab_mt 33 19 ls st w else ab_Run ab_mt 33 10 ls st w := E_ic_ge rfl
theorem e_33_10 {ls : ab_L} {st : List Value} {w : ab_W} (h : ab_isR (ls 0) = true) : ab_Run ab_mt 33 10 ls st w = ab_Run ab_mt 33 11 ls (ab_gv (ls 0) :: st) w := E_loadr (n := 1) rfl h
theorem e_33_11 {ls : ab_L} {st : List Value} {w : ab_W} {a : Nat} (h : ab_isF 1 1 (w.2 a) = true) : ab_Run ab_mt 33 11 ls (.ref a :: st) w = ab_Run ab_mt 33 14 ls (ab_fv 1 (w.2 a) :: st) w := E_get rfl h
theorem e_33_14 {ls : ab_L} {st : List Value} {w : ab_W} (h : ab_isI (ls 1) = true) : ab_Run ab_mt 33 14 ls st w = ab_Run ab_mt 33 15 ls (ab_gv (ls 1) :: st) w := E_loadi (n := 1) rfl h
theorem e_33_15 {ls : ab_L} {st : List Value} {w : ab_W} {a : Nat} {i : Int32} (h : ab_inI i (w.2 a) = true) : ab_Run ab_mt 33 15 ls (.int i :: .ref a :: st) w = ab_Run ab_mt 33 16 ls (.int (ab_aI i.toNatClampNeg (w.2 a)) :: st) w := E_iald rfl h
theorem e_33_16 {ls : ab_L} {st : List Value} {w : ab_W} : ab_Run ab_mt 33 16 ls st w = ab_Run ab_mt 33 20 ls st w := E_goto rfl
theorem e_33_19 {ls : ab_L} {st : List Value} {w : ab_W} : ab_Run ab_mt 33 19 ls st w = ab_Run ab_mt 33 20 ls (.int (nI 0) :: st) w := E_push (n := 1) rfl
theorem e_33_20 {ls : ab_L} {w : ab_W} {x : Int32} : ab_Run ab_mt 33 20 ls [.int x] w = some (.inl (some (.int x)), w) := E_reti rfl
theorem rv_33 {σ : ab_S} {t : Nat} {x0 : Int32} : ab_recv ab_mt 33 [.ref t, .int x0] σ = ab_isO 1 (σ t) := rfl
theorem e_34_0 {ls : ab_L} {st : List Value} {w : ab_W} (h : ab_isI (ls 1) = true) : ab_Run ab_mt 34 0 ls st w = ab_Run ab_mt 34 1 ls (ab_gv (ls 1) :: st) w := E_loadi (n := 1) rfl h
theorem e_34_1 {ls : ab_L} {st : List Value} {w : ab_W} {x : Int32} : ab_Run ab_mt 34 1 ls (.int x :: st) w = if x < 0 then ab_Run ab_mt 34 21 ls st w else ab_Run ab_mt 34 4 ls st w := E_if_lt rfl
theorem e_34_4 {ls : ab_L} {st : List Value} {w : ab_W} (h : ab_isI (ls 1) = true) : ab_Run ab_mt 34 4 ls st w = ab_Run ab_mt 34 5 ls (ab_gv (ls 1) :: st) w := E_loadi (n := 1) rfl h
theorem e_34_5 {ls : ab_L} {st : List Value} {w : ab_W} (h : ab_isR (ls 0) = true) : ab_Run ab_mt 34 5 ls st w = ab_Run ab_mt 34 6 ls (ab_gv (ls 0) :: st) w := E_loadr (n := 1) rfl h
theorem e_34_6 {ls : ab_L} {st : List Value} {w : ab_W} {a : Nat} (h : ab_isF 1 6 (w.2 a) = true) : ab_Run ab_mt 34 6 ls (.ref a :: st) w = ab_Run ab_mt 34 9 ls (ab_fv 6 (w.2 a) :: st) w := E_get rfl h
theorem e_34_9 {ls : ab_L} {st : List Value} {w : ab_W} {x y : Int32} : ab_Run ab_mt 34 9 ls (.int y :: .int x :: st) w = if y ≤ x then ab_Run ab_mt 34 21 ls st w else ab_Run ab_mt 34 12 ls st w := E_ic_ge rfl
theorem e_34_12 {ls : ab_L} {st : List Value} {w : ab_W} (h : ab_isR (ls 0) = true) : ab_Run ab_mt 34 12 ls st w = ab_Run ab_mt 34 13 ls (ab_gv (ls 0) :: st) w := E_loadr (n := 1) rfl h
theorem e_34_13 {ls : ab_L} {st : List Value} {w : ab_W} {a : Nat} (h : ab_isF 1 2 (w.2 a) = true) : ab_Run ab_mt 34 13 ls (.ref a :: st) w = ab_Run ab_mt 34 16 ls (ab_fv 2 (w.2 a) :: st) w := E_get rfl h
theorem e_34_16 {ls : ab_L} {st : List Value} {w : ab_W} (h : ab_isI (ls 1) = true) : ab_Run ab_mt 34 16 ls st w = ab_Run ab_mt 34 17 ls (ab_gv (ls 1) :: st) w := E_loadi (n := 1) rfl h
theorem e_34_17 {ls : ab_L} {st : List Value} {w : ab_W} {a : Nat} {i : Int32} (h : ab_inI i (w.2 a) = true) : ab_Run ab_mt 34 17 ls (.int i :: .ref a :: st) w = ab_Run ab_mt 34 18 ls (.int (ab_aI i.toNatClampNeg (w.2 a)) :: st) w := E_iald rfl h
theorem e_34_18 {ls : ab_L} {st : List Value} {w : ab_W} : ab_Run ab_mt 34 18 ls st w = ab_Run ab_mt 34 22 ls st w := E_goto rfl
theorem e_34_21 {ls : ab_L} {st : List Value} {w : ab_W} : ab_Run ab_mt 34 21 ls st w = ab_Run ab_mt 34 22 ls (.int (nI 0) :: st) w := E_push (n := 1) rfl
theorem e_34_22 {ls : ab_L} {w : ab_W} {x : Int32} : ab_Run ab_mt 34 22 ls [.int x] w = some (.inl (some (.int x)), w) := E_reti rfl
theorem rv_34 {σ : ab_S} {t : Nat} {x0 : Int32} : ab_recv ab_mt 34 [.ref t, .int x0] σ = ab_isO 1 (σ t) := rfl
theorem e_35_0 {ls : ab_L} {st : List Value} {w : ab_W} (h : ab_isI (ls 1) = true) : ab_Run ab_mt 35 0 ls st w = ab_Run ab_mt 35 1 ls (ab_gv (ls 1) :: st) w := E_loadi (n := 1) rfl h
theorem e_35_1 {ls : ab_L} {st : List Value} {w : ab_W} (h : ab_isR (ls 0) = true) : ab_Run ab_mt 35 1 ls st w = ab_Run ab_mt 35 2 ls (ab_gv (ls 0) :: st) w := E_loadr (n := 1) rfl h
theorem e_35_2 {ls : ab_L} {st : List Value} {w : ab_W} (h : ab_isR (ls 0) = true) : ab_Run ab_mt 35 2 ls st w = ab_Run ab_mt 35 3 ls (ab_gv (ls 0) :: st) w := E_loadr (n := 1) rfl h
theorem e_35_3 {ls : ab_L} {st : List Value} {w : ab_W} (h : ab_isI (ls 1) = true) : ab_Run ab_mt 35 3 ls st w = ab_Run ab_mt 35 4 ls (ab_gv (ls 1) :: st) w := E_loadi (n := 1) rfl h
theorem e_35_4 {ls : ab_L} {st : List Value} {w : ab_W} {v0 v1 : Value} (h1 : ab_recv ab_mt 34 [v0, v1] w.2 = true) (h8 : ab_w8 st = true) : ab_Run ab_mt 35 4 ls (v1 :: v0 :: st) w = ab_aft 34 35 4 ls st (ab_Cl 34 [v0, v1] w) := E_call2 rfl h1 h8
theorem e_35_7 {ls : ab_L} {st : List Value} {w : ab_W} {v0 v1 : Value} (h1 : ab_recv ab_mt 33 [v0, v1] w.2 = true) (h8 : ab_w8 st = true) : ab_Run ab_mt 35 7 ls (v1 :: v0 :: st) w = ab_aft 33 35 7 ls st (ab_Cl 33 [v0, v1] w) := E_call2 rfl h1 h8
theorem e_35_10 {ls : ab_L} {st : List Value} {w : ab_W} {x y : Int32} : ab_Run ab_mt 35 10 ls (.int y :: .int x :: st) w = ab_Run ab_mt 35 11 ls (.int (x - y) :: st) w := E_ib (f := fun x y => x - y) rfl
theorem e_35_11 {ls : ab_L} {w : ab_W} {x : Int32} : ab_Run ab_mt 35 11 ls [.int x] w = some (.inl (some (.int x)), w) := E_reti rfl
theorem rv_35 {σ : ab_S} {t : Nat} {x0 : Int32} : ab_recv ab_mt 35 [.ref t, .int x0] σ = ab_isO 1 (σ t) := rfl
theorem e_36_0 {ls : ab_L} {st : List Value} {w : ab_W} (h : ab_isI (ls 1) = true) : ab_Run ab_mt 36 0 ls st w = ab_Run ab_mt 36 1 ls (ab_gv (ls 1) :: st) w := E_loadi (n := 1) rfl h
theorem e_36_1 {ls : ab_L} {st : List Value} {w : ab_W} {x : Int32} : ab_Run ab_mt 36 1 ls (.int x :: st) w = if x < 0 then ab_Run ab_mt 36 21 ls st w else ab_Run ab_mt 36 4 ls st w := E_if_lt rfl
theorem e_36_4 {ls : ab_L} {st : List Value} {w : ab_W} (h : ab_isI (ls 1) = true) : ab_Run ab_mt 36 4 ls st w = ab_Run ab_mt 36 5 ls (ab_gv (ls 1) :: st) w := E_loadi (n := 1) rfl h
theorem e_36_5 {ls : ab_L} {st : List Value} {w : ab_W} (h : ab_isR (ls 0) = true) : ab_Run ab_mt 36 5 ls st w = ab_Run ab_mt 36 6 ls (ab_gv (ls 0) :: st) w := E_loadr (n := 1) rfl h
theorem e_36_6 {ls : ab_L} {st : List Value} {w : ab_W} {a : Nat} (h : ab_isF 1 6 (w.2 a) = true) : ab_Run ab_mt 36 6 ls (.ref a :: st) w = ab_Run ab_mt 36 9 ls (ab_fv 6 (w.2 a) :: st) w := E_get rfl h
theorem e_36_9 {ls : ab_L} {st : List Value} {w : ab_W} {x y : Int32} : ab_Run ab_mt 36 9 ls (.int y :: .int x :: st) w = if y ≤ x then ab_Run ab_mt 36 21 ls st w else ab_Run ab_mt 36 12 ls st w := E_ic_ge rfl
theorem e_36_12 {ls : ab_L} {st : List Value} {w : ab_W} (h : ab_isR (ls 0) = true) : ab_Run ab_mt 36 12 ls st w = ab_Run ab_mt 36 13 ls (ab_gv (ls 0) :: st) w := E_loadr (n := 1) rfl h
theorem e_36_13 {ls : ab_L} {st : List Value} {w : ab_W} {a : Nat} (h : ab_isF 1 3 (w.2 a) = true) : ab_Run ab_mt 36 13 ls (.ref a :: st) w = ab_Run ab_mt 36 16 ls (ab_fv 3 (w.2 a) :: st) w := E_get rfl h
theorem e_36_16 {ls : ab_L} {st : List Value} {w : ab_W} (h : ab_isI (ls 1) = true) : ab_Run ab_mt 36 16 ls st w = ab_Run ab_mt 36 17 ls (ab_gv (ls 1) :: st) w := E_loadi (n := 1) rfl h
theorem e_36_17 {ls : ab_L} {st : List Value} {w : ab_W} {a : Nat} {i : Int32} (h : ab_inI i (w.2 a) = true) : ab_Run ab_mt 36 17 ls (.int i :: .ref a :: st) w = ab_Run ab_mt 36 18 ls (.int (ab_aI i.toNatClampNeg (w.2 a)) :: st) w := E_iald rfl h
theorem e_36_18 {ls : ab_L} {st : List Value} {w : ab_W} : ab_Run ab_mt 36 18 ls st w = ab_Run ab_mt 36 22 ls st w := E_goto rfl
theorem e_36_21 {ls : ab_L} {st : List Value} {w : ab_W} : ab_Run ab_mt 36 21 ls st w = ab_Run ab_mt 36 22 ls (.int (nI 0) :: st) w := E_push (n := 1) rfl
theorem e_36_22 {ls : ab_L} {w : ab_W} {x : Int32} : ab_Run ab_mt 36 22 ls [.int x] w = some (.inl (some (.int x)), w) := E_reti rfl
theorem rv_36 {σ : ab_S} {t : Nat} {x0 : Int32} : ab_recv ab_mt 36 [.ref t, .int x0] σ = ab_isO 1 (σ t) := rfl
theorem e_37_0 {ls : ab_L} {st : List Value} {w : ab_W} : ab_Run ab_mt 37 0 ls st w = ab_Run ab_mt 37 3 ls (.long (lN 600000000) :: st) w := E_push (n := 3) rfl
theorem e_37_3 {ls : ab_L} {st : List Value} {w : ab_W} (h : ab_isR (ls 0) = true) : ab_Run ab_mt 37 3 ls st w = ab_Run ab_mt 37 4 ls (ab_gv (ls 0) :: st) w := E_loadr (n := 1) rfl h
theorem e_37_4 {ls : ab_L} {st : List Value} {w : ab_W} (h : ab_isI (ls 1) = true) : ab_Run ab_mt 37 4 ls st w = ab_Run ab_mt 37 5 ls (ab_gv (ls 1) :: st) w := E_loadi (n := 1) rfl h
theorem e_37_5 {ls : ab_L} {st : List Value} {w : ab_W} {v0 v1 : Value} (h1 : ab_recv ab_mt 36 [v0, v1] w.2 = true) (h8 : ab_w8 st = true) : ab_Run ab_mt 37 5 ls (v1 :: v0 :: st) w = ab_aft 36 37 5 ls st (ab_Cl 36 [v0, v1] w) := E_call2 rfl h1 h8
theorem e_37_8 {ls : ab_L} {st : List Value} {w : ab_W} {x : Int32} : ab_Run ab_mt 37 8 ls (.int x :: st) w = ab_Run ab_mt 37 9 ls (.long x.toInt64 :: st) w := E_i2l rfl
theorem e_37_9 {ls : ab_L} {st : List Value} {w : ab_W} {v0 v1 : Value} (h1 : ab_recv ab_mt 25 [v0, v1] w.2 = true) (h8 : ab_w8 st = true) : ab_Run ab_mt 37 9 ls (v1 :: v0 :: st) w = ab_aft 25 37 9 ls st (ab_Cl 25 [v0, v1] w) := E_call2 rfl h1 h8
theorem e_37_12 {ls : ab_L} {w : ab_W} {x : Int64} : ab_Run ab_mt 37 12 ls [.long x] w = some (.inl (some (.long x)), w) := E_retl rfl
theorem rv_37 {σ : ab_S} {t : Nat} {x0 : Int32} : ab_recv ab_mt 37 [.ref t, .int x0] σ = ab_isO 1 (σ t) := rfl
theorem e_38_0 {ls : ab_L} {st : List Value} {w : ab_W} (h : ab_isI (ls 1) = true) : ab_Run ab_mt 38 0 ls st w = ab_Run ab_mt 38 1 ls (ab_gv (ls 1) :: st) w := E_loadi (n := 1) rfl h
theorem e_38_1 {ls : ab_L} {st : List Value} {w : ab_W} {x : Int32} : ab_Run ab_mt 38 1 ls (.int x :: st) w = if x < 0 then ab_Run ab_mt 38 21 ls st w else ab_Run ab_mt 38 4 ls st w := E_if_lt rfl
theorem e_38_4 {ls : ab_L} {st : List Value} {w : ab_W} (h : ab_isI (ls 1) = true) : ab_Run ab_mt 38 4 ls st w = ab_Run ab_mt 38 5 ls (ab_gv (ls 1) :: st) w := E_loadi (n := 1) rfl h
theorem e_38_5 {ls : ab_L} {st : List Value} {w : ab_W} (h : ab_isR (ls 0) = true) : ab_Run ab_mt 38 5 ls st w = ab_Run ab_mt 38 6 ls (ab_gv (ls 0) :: st) w := E_loadr (n := 1) rfl h
theorem e_38_6 {ls : ab_L} {st : List Value} {w : ab_W} {a : Nat} (h : ab_isF 1 6 (w.2 a) = true) : ab_Run ab_mt 38 6 ls (.ref a :: st) w = ab_Run ab_mt 38 9 ls (ab_fv 6 (w.2 a) :: st) w := E_get rfl h
theorem e_38_9 {ls : ab_L} {st : List Value} {w : ab_W} {x y : Int32} : ab_Run ab_mt 38 9 ls (.int y :: .int x :: st) w = if y ≤ x then ab_Run ab_mt 38 21 ls st w else ab_Run ab_mt 38 12 ls st w := E_ic_ge rfl
theorem e_38_12 {ls : ab_L} {st : List Value} {w : ab_W} (h : ab_isR (ls 0) = true) : ab_Run ab_mt 38 12 ls st w = ab_Run ab_mt 38 13 ls (ab_gv (ls 0) :: st) w := E_loadr (n := 1) rfl h
theorem e_38_13 {ls : ab_L} {st : List Value} {w : ab_W} {a : Nat} (h : ab_isF 1 4 (w.2 a) = true) : ab_Run ab_mt 38 13 ls (.ref a :: st) w = ab_Run ab_mt 38 16 ls (ab_fv 4 (w.2 a) :: st) w := E_get rfl h
theorem e_38_16 {ls : ab_L} {st : List Value} {w : ab_W} (h : ab_isI (ls 1) = true) : ab_Run ab_mt 38 16 ls st w = ab_Run ab_mt 38 17 ls (ab_gv (ls 1) :: st) w := E_loadi (n := 1) rfl h
theorem e_38_17 {ls : ab_L} {st : List Value} {w : ab_W} {a : Nat} {i : Int32} (h : ab_inL i (w.2 a) = true) : ab_Run ab_mt 38 17 ls (.int i :: .ref a :: st) w = ab_Run ab_mt 38 18 ls (.long (ab_aL i.toNatClampNeg (w.2 a)) :: st) w := E_lald rfl h
theorem e_38_18 {ls : ab_L} {st : List Value} {w : ab_W} : ab_Run ab_mt 38 18 ls st w = ab_Run ab_mt 38 22 ls st w := E_goto rfl
theorem e_38_21 {ls : ab_L} {st : List Value} {w : ab_W} : ab_Run ab_mt 38 21 ls st w = ab_Run ab_mt 38 22 ls (.long (lN 0) :: st) w := E_push (n := 1) rfl
theorem e_38_22 {ls : ab_L} {w : ab_W} {x : Int64} : ab_Run ab_mt 38 22 ls [.long x] w = some (.inl (some (.long x)), w) := E_retl rfl
theorem rv_38 {σ : ab_S} {t : Nat} {x0 : Int32} : ab_recv ab_mt 38 [.ref t, .int x0] σ = ab_isO 1 (σ t) := rfl
theorem e_39_0 {ls : ab_L} {st : List Value} {w : ab_W} (h : ab_isI (ls 1) = true) : ab_Run ab_mt 39 0 ls st w = ab_Run ab_mt 39 1 ls (ab_gv (ls 1) :: st) w := E_loadi (n := 1) rfl h
theorem e_39_1 {ls : ab_L} {st : List Value} {w : ab_W} {x : Int32} : ab_Run ab_mt 39 1 ls (.int x :: st) w = if x < 0 then ab_Run ab_mt 39 21 ls st w else ab_Run ab_mt 39 4 ls st w := E_if_lt rfl
theorem e_39_4 {ls : ab_L} {st : List Value} {w : ab_W} (h : ab_isI (ls 1) = true) : ab_Run ab_mt 39 4 ls st w = ab_Run ab_mt 39 5 ls (ab_gv (ls 1) :: st) w := E_loadi (n := 1) rfl h
theorem e_39_5 {ls : ab_L} {st : List Value} {w : ab_W} (h : ab_isR (ls 0) = true) : ab_Run ab_mt 39 5 ls st w = ab_Run ab_mt 39 6 ls (ab_gv (ls 0) :: st) w := E_loadr (n := 1) rfl h
theorem e_39_6 {ls : ab_L} {st : List Value} {w : ab_W} {a : Nat} (h : ab_isF 1 6 (w.2 a) = true) : ab_Run ab_mt 39 6 ls (.ref a :: st) w = ab_Run ab_mt 39 9 ls (ab_fv 6 (w.2 a) :: st) w := E_get rfl h
theorem e_39_9 {ls : ab_L} {st : List Value} {w : ab_W} {x y : Int32} : ab_Run ab_mt 39 9 ls (.int y :: .int x :: st) w = if y ≤ x then ab_Run ab_mt 39 21 ls st w else ab_Run ab_mt 39 12 ls st w := E_ic_ge rfl
theorem e_39_12 {ls : ab_L} {st : List Value} {w : ab_W} (h : ab_isR (ls 0) = true) : ab_Run ab_mt 39 12 ls st w = ab_Run ab_mt 39 13 ls (ab_gv (ls 0) :: st) w := E_loadr (n := 1) rfl h
theorem e_39_13 {ls : ab_L} {st : List Value} {w : ab_W} {a : Nat} (h : ab_isF 1 5 (w.2 a) = true) : ab_Run ab_mt 39 13 ls (.ref a :: st) w = ab_Run ab_mt 39 16 ls (ab_fv 5 (w.2 a) :: st) w := E_get rfl h
theorem e_39_16 {ls : ab_L} {st : List Value} {w : ab_W} (h : ab_isI (ls 1) = true) : ab_Run ab_mt 39 16 ls st w = ab_Run ab_mt 39 17 ls (ab_gv (ls 1) :: st) w := E_loadi (n := 1) rfl h
theorem e_39_17 {ls : ab_L} {st : List Value} {w : ab_W} {a : Nat} {i : Int32} (h : ab_inL i (w.2 a) = true) : ab_Run ab_mt 39 17 ls (.int i :: .ref a :: st) w = ab_Run ab_mt 39 18 ls (.long (ab_aL i.toNatClampNeg (w.2 a)) :: st) w := E_lald rfl h
theorem e_39_18 {ls : ab_L} {st : List Value} {w : ab_W} : ab_Run ab_mt 39 18 ls st w = ab_Run ab_mt 39 22 ls st w := E_goto rfl
theorem e_39_21 {ls : ab_L} {st : List Value} {w : ab_W} : ab_Run ab_mt 39 21 ls st w = ab_Run ab_mt 39 22 ls (.long (lN 0) :: st) w := E_push (n := 1) rfl
theorem e_39_22 {ls : ab_L} {w : ab_W} {x : Int64} : ab_Run ab_mt 39 22 ls [.long x] w = some (.inl (some (.long x)), w) := E_retl rfl
theorem rv_39 {σ : ab_S} {t : Nat} {x0 : Int32} : ab_recv ab_mt 39 [.ref t, .int x0] σ = ab_isO 1 (σ t) := rfl
theorem e_40_0 {ls : ab_L} {st : List Value} {w : ab_W} (h : ab_isR (ls 0) = true) : ab_Run ab_mt 40 0 ls st w = ab_Run ab_mt 40 1 ls (ab_gv (ls 0) :: st) w := E_loadr (n := 1) rfl h
theorem e_40_1 {ls : ab_L} {st : List Value} {w : ab_W} {a : Nat} (h : ab_isF 1 0 (w.2 a) = true) : ab_Run ab_mt 40 1 ls (.ref a :: st) w = ab_Run ab_mt 40 4 ls (ab_fv 0 (w.2 a) :: st) w := E_get rfl h
theorem e_40_4 {ls : ab_L} {st : List Value} {w : ab_W} {a : Nat} (h : ab_isF 2 0 (w.2 a) = true) : ab_Run ab_mt 40 4 ls (.ref a :: st) w = ab_Run ab_mt 40 7 ls (ab_fv 0 (w.2 a) :: st) w := E_get rfl h
theorem e_40_7 {ls : ab_L} {st : List Value} {w : ab_W} (h : ab_isR (ls 0) = true) : ab_Run ab_mt 40 7 ls st w = ab_Run ab_mt 40 8 ls (ab_gv (ls 0) :: st) w := E_loadr (n := 1) rfl h
theorem e_40_8 {ls : ab_L} {st : List Value} {w : ab_W} (h : ab_isI (ls 1) = true) : ab_Run ab_mt 40 8 ls st w = ab_Run ab_mt 40 9 ls (ab_gv (ls 1) :: st) w := E_loadi (n := 1) rfl h
theorem e_40_9 {ls : ab_L} {st : List Value} {w : ab_W} {v0 v1 : Value} (h1 : ab_recv ab_mt 34 [v0, v1] w.2 = true) (h8 : ab_w8 st = true) : ab_Run ab_mt 40 9 ls (v1 :: v0 :: st) w = ab_aft 34 40 9 ls st (ab_Cl 34 [v0, v1] w) := E_call2 rfl h1 h8
theorem e_40_12 {ls : ab_L} {st : List Value} {w : ab_W} : ab_Run ab_mt 40 12 ls st w = ab_Run ab_mt 40 13 ls (.int (nI 4) :: st) w := E_push (n := 1) rfl
theorem e_40_13 {ls : ab_L} {st : List Value} {w : ab_W} {v0 v1 v2 : Value} (h1 : ab_recv ab_mt 53 [v0, v1, v2] w.2 = true) (h8 : ab_w8 st = true) : ab_Run ab_mt 40 13 ls (v2 :: v1 :: v0 :: st) w = ab_aft 53 40 13 ls st (ab_Cl 53 [v0, v1, v2] w) := E_call3 rfl h1 h8
theorem e_40_16 {ls : ab_L} {st : List Value} {w : ab_W} (h : ab_isR (ls 0) = true) : ab_Run ab_mt 40 16 ls st w = ab_Run ab_mt 40 17 ls (ab_gv (ls 0) :: st) w := E_loadr (n := 1) rfl h
theorem e_40_17 {ls : ab_L} {st : List Value} {w : ab_W} (h : ab_isI (ls 1) = true) : ab_Run ab_mt 40 17 ls st w = ab_Run ab_mt 40 18 ls (ab_gv (ls 1) :: st) w := E_loadi (n := 1) rfl h
theorem e_40_18 {ls : ab_L} {st : List Value} {w : ab_W} {v0 v1 : Value} (h1 : ab_recv ab_mt 35 [v0, v1] w.2 = true) (h8 : ab_w8 st = true) : ab_Run ab_mt 40 18 ls (v1 :: v0 :: st) w = ab_aft 35 40 18 ls st (ab_Cl 35 [v0, v1] w) := E_call2 rfl h1 h8
theorem e_40_21 {ls : ab_L} {st : List Value} {w : ab_W} {x y : Int32} : ab_Run ab_mt 40 21 ls (.int y :: .int x :: st) w = ab_Run ab_mt 40 22 ls (.int (x >>> (y &&& 31)) :: st) w := E_ib (f := fun x y => x >>> (y &&& 31)) rfl
theorem e_40_22 {ls : ab_L} {st : List Value} {w : ab_W} : ab_Run ab_mt 40 22 ls st w = ab_Run ab_mt 40 23 ls (.int (nI 1) :: st) w := E_push (n := 1) rfl
theorem e_40_23 {ls : ab_L} {st : List Value} {w : ab_W} {x y : Int32} : ab_Run ab_mt 40 23 ls (.int y :: .int x :: st) w = ab_Run ab_mt 40 24 ls (.int (x &&& y) :: st) w := E_ib (f := fun x y => x &&& y) rfl
theorem e_40_24 {ls : ab_L} {w : ab_W} {x : Int32} : ab_Run ab_mt 40 24 ls [.int x] w = some (.inl (some (.int x)), w) := E_reti rfl
theorem rv_40 {σ : ab_S} {t : Nat} {x0 : Int32} : ab_recv ab_mt 40 [.ref t, .int x0] σ = ab_isO 1 (σ t) := rfl
theorem e_41_0 {ls : ab_L} {st : List Value} {w : ab_W} (h : ab_isR (ls 0) = true) : ab_Run ab_mt 41 0 ls st w = ab_Run ab_mt 41 1 ls (ab_gv (ls 0) :: st) w := E_loadr (n := 1) rfl h
theorem e_41_1 {ls : ab_L} {st : List Value} {w : ab_W} {a : Nat} (h : ab_isF 1 0 (w.2 a) = true) : ab_Run ab_mt 41 1 ls (.ref a :: st) w = ab_Run ab_mt 41 4 ls (ab_fv 0 (w.2 a) :: st) w := E_get rfl h
theorem e_41_4 {ls : ab_L} {st : List Value} {w : ab_W} {a : Nat} (h : ab_isF 2 0 (w.2 a) = true) : ab_Run ab_mt 41 4 ls (.ref a :: st) w = ab_Run ab_mt 41 7 ls (ab_fv 0 (w.2 a) :: st) w := E_get rfl h
theorem e_41_7 {ls : ab_L} {st : List Value} {w : ab_W} (h : ab_isR (ls 0) = true) : ab_Run ab_mt 41 7 ls st w = ab_Run ab_mt 41 8 ls (ab_gv (ls 0) :: st) w := E_loadr (n := 1) rfl h
theorem e_41_8 {ls : ab_L} {st : List Value} {w : ab_W} (h : ab_isI (ls 1) = true) : ab_Run ab_mt 41 8 ls st w = ab_Run ab_mt 41 9 ls (ab_gv (ls 1) :: st) w := E_loadi (n := 1) rfl h
theorem e_41_9 {ls : ab_L} {st : List Value} {w : ab_W} {v0 v1 : Value} (h1 : ab_recv ab_mt 34 [v0, v1] w.2 = true) (h8 : ab_w8 st = true) : ab_Run ab_mt 41 9 ls (v1 :: v0 :: st) w = ab_aft 34 41 9 ls st (ab_Cl 34 [v0, v1] w) := E_call2 rfl h1 h8
theorem e_41_12 {ls : ab_L} {st : List Value} {w : ab_W} : ab_Run ab_mt 41 12 ls st w = ab_Run ab_mt 41 13 ls (.int (nI 1) :: st) w := E_push (n := 1) rfl
theorem e_41_13 {ls : ab_L} {st : List Value} {w : ab_W} {v0 v1 v2 : Value} (h1 : ab_recv ab_mt 53 [v0, v1, v2] w.2 = true) (h8 : ab_w8 st = true) : ab_Run ab_mt 41 13 ls (v2 :: v1 :: v0 :: st) w = ab_aft 53 41 13 ls st (ab_Cl 53 [v0, v1, v2] w) := E_call3 rfl h1 h8
theorem e_41_16 {ls : ab_L} {w : ab_W} {x : Int32} : ab_Run ab_mt 41 16 ls [.int x] w = some (.inl (some (.int x)), w) := E_reti rfl
theorem rv_41 {σ : ab_S} {t : Nat} {x0 : Int32} : ab_recv ab_mt 41 [.ref t, .int x0] σ = ab_isO 1 (σ t) := rfl
theorem e_42_0 {ls : ab_L} {st : List Value} {w : ab_W} (h : ab_isR (ls 0) = true) : ab_Run ab_mt 42 0 ls st w = ab_Run ab_mt 42 1 ls (ab_gv (ls 0) :: st) w := E_loadr (n := 1) rfl h
theorem e_42_1 {ls : ab_L} {st : List Value} {w : ab_W} (h : ab_isI (ls 1) = true) : ab_Run ab_mt 42 1 ls st w = ab_Run ab_mt 42 2 ls (ab_gv (ls 1) :: st) w := E_loadi (n := 1) rfl h
theorem e_42_2 {ls : ab_L} {st : List Value} {w : ab_W} {v0 v1 : Value} (h1 : ab_recv ab_mt 38 [v0, v1] w.2 = true) (h8 : ab_w8 st = true) : ab_Run ab_mt 42 2 ls (v1 :: v0 :: st) w = ab_aft 38 42 2 ls st (ab_Cl 38 [v0, v1] w) := E_call2 rfl h1 h8
theorem e_42_5 {ls : ab_L} {st : List Value} {w : ab_W} (h : ab_isR (ls 0) = true) : ab_Run ab_mt 42 5 ls st w = ab_Run ab_mt 42 6 ls (ab_gv (ls 0) :: st) w := E_loadr (n := 1) rfl h
theorem e_42_6 {ls : ab_L} {st : List Value} {w : ab_W} (h : ab_isI (ls 1) = true) : ab_Run ab_mt 42 6 ls st w = ab_Run ab_mt 42 7 ls (ab_gv (ls 1) :: st) w := E_loadi (n := 1) rfl h
theorem e_42_7 {ls : ab_L} {st : List Value} {w : ab_W} {v0 v1 : Value} (h1 : ab_recv ab_mt 39 [v0, v1] w.2 = true) (h8 : ab_w8 st = true) : ab_Run ab_mt 42 7 ls (v1 :: v0 :: st) w = ab_aft 39 42 7 ls st (ab_Cl 39 [v0, v1] w) := E_call2 rfl h1 h8
theorem e_42_10 {ls : ab_L} {st : List Value} {w : ab_W} (h : ab_isI (ls 2) = true) : ab_Run ab_mt 42 10 ls st w = ab_Run ab_mt 42 11 ls (ab_gv (ls 2) :: st) w := E_loadi (n := 1) rfl h
theorem e_42_11 {ls : ab_L} {st : List Value} {w : ab_W} {x : Int32} : ab_Run ab_mt 42 11 ls (.int x :: st) w = ab_Run ab_mt 42 12 ls (.long x.toInt64 :: st) w := E_i2l rfl
theorem e_42_12 {ls : ab_L} {st : List Value} {w : ab_W} {x y : Int64} : ab_Run ab_mt 42 12 ls (.long y :: .long x :: st) w = ab_Run ab_mt 42 13 ls (.long (x * y) :: st) w := E_lb (f := fun x y => x * y) rfl
theorem e_42_13 {ls : ab_L} {st : List Value} {w : ab_W} (h : ab_isR (ls 0) = true) : ab_Run ab_mt 42 13 ls st w = ab_Run ab_mt 42 14 ls (ab_gv (ls 0) :: st) w := E_loadr (n := 1) rfl h
theorem e_42_14 {ls : ab_L} {st : List Value} {w : ab_W} (h : ab_isI (ls 1) = true) : ab_Run ab_mt 42 14 ls st w = ab_Run ab_mt 42 15 ls (ab_gv (ls 1) :: st) w := E_loadi (n := 1) rfl h
theorem e_42_15 {ls : ab_L} {st : List Value} {w : ab_W} {v0 v1 : Value} (h1 : ab_recv ab_mt 41 [v0, v1] w.2 = true) (h8 : ab_w8 st = true) : ab_Run ab_mt 42 15 ls (v1 :: v0 :: st) w = ab_aft 41 42 15 ls st (ab_Cl 41 [v0, v1] w) := E_call2 rfl h1 h8
theorem e_42_18 {ls : ab_L} {st : List Value} {w : ab_W} {x : Int32} : ab_Run ab_mt 42 18 ls (.int x :: st) w = ab_Run ab_mt 42 19 ls (.long x.toInt64 :: st) w := E_i2l rfl
theorem e_42_19 {ls : ab_L} {st : List Value} {w : ab_W} {v0 v1 : Value} (h1 : ab_recv ab_mt 25 [v0, v1] w.2 = true) (h8 : ab_w8 st = true) : ab_Run ab_mt 42 19 ls (v1 :: v0 :: st) w = ab_aft 25 42 19 ls st (ab_Cl 25 [v0, v1] w) := E_call2 rfl h1 h8
theorem e_42_22 {ls : ab_L} {st : List Value} {w : ab_W} {x y : Int64} : ab_Run ab_mt 42 22 ls (.long y :: .long x :: st) w = ab_Run ab_mt 42 23 ls (.long (x + y) :: st) w := E_lb (f := fun x y => x + y) rfl
theorem e_42_23 {ls : ab_L} {w : ab_W} {x : Int64} : ab_Run ab_mt 42 23 ls [.long x] w = some (.inl (some (.long x)), w) := E_retl rfl
theorem rv_42 {σ : ab_S} {t : Nat} {x0 : Int32} {x1 : Int32} : ab_recv ab_mt 42 [.ref t, .int x0, .int x1] σ = ab_isO 1 (σ t) := rfl
theorem e_43_0 {ls : ab_L} {st : List Value} {w : ab_W} : ab_Run ab_mt 43 0 ls st w = ab_Run ab_mt 43 1 ls (.int (nI 0) :: st) w := E_push (n := 1) rfl
theorem e_43_1 {ls : ab_L} {st : List Value} {w : ab_W} {x : Int32} : ab_Run ab_mt 43 1 ls (.int x :: st) w = ab_Run ab_mt 43 2 (ab_l1 ls 3 (.int x)) st w := E_stori (n := 1) rfl
theorem e_43_2 {ls : ab_L} {st : List Value} {w : ab_W} (h : ab_isI (ls 3) = true) : ab_Run ab_mt 43 2 ls st w = ab_Run ab_mt 43 3 ls (ab_gv (ls 3) :: st) w := E_loadi (n := 1) rfl h
theorem e_43_3 {ls : ab_L} {st : List Value} {w : ab_W} : ab_Run ab_mt 43 3 ls st w = ab_Run ab_mt 43 4 ls (.int (nI 1) :: st) w := E_push (n := 1) rfl
theorem e_43_4 {ls : ab_L} {st : List Value} {w : ab_W} {x y : Int32} : ab_Run ab_mt 43 4 ls (.int y :: .int x :: st) w = ab_Run ab_mt 43 5 ls (.int (x + y) :: st) w := E_ib (f := fun x y => x + y) rfl
theorem e_43_5 {ls : ab_L} {st : List Value} {w : ab_W} (h : ab_isR (ls 0) = true) : ab_Run ab_mt 43 5 ls st w = ab_Run ab_mt 43 6 ls (ab_gv (ls 0) :: st) w := E_loadr (n := 1) rfl h
theorem e_43_6 {ls : ab_L} {st : List Value} {w : ab_W} {a : Nat} (h : ab_isF 1 6 (w.2 a) = true) : ab_Run ab_mt 43 6 ls (.ref a :: st) w = ab_Run ab_mt 43 9 ls (ab_fv 6 (w.2 a) :: st) w := E_get rfl h
theorem e_43_9 {ls : ab_L} {st : List Value} {w : ab_W} {x y : Int32} : ab_Run ab_mt 43 9 ls (.int y :: .int x :: st) w = if y ≤ x then ab_Run ab_mt 43 30 ls st w else ab_Run ab_mt 43 12 ls st w := E_ic_ge rfl
theorem e_43_12 {ls : ab_L} {st : List Value} {w : ab_W} (h : ab_isR (ls 0) = true) : ab_Run ab_mt 43 12 ls st w = ab_Run ab_mt 43 13 ls (ab_gv (ls 0) :: st) w := E_loadr (n := 1) rfl h
theorem e_43_13 {ls : ab_L} {st : List Value} {w : ab_W} (h : ab_isI (ls 3) = true) : ab_Run ab_mt 43 13 ls st w = ab_Run ab_mt 43 14 ls (ab_gv (ls 3) :: st) w := E_loadi (n := 1) rfl h
theorem e_43_14 {ls : ab_L} {st : List Value} {w : ab_W} : ab_Run ab_mt 43 14 ls st w = ab_Run ab_mt 43 15 ls (.int (nI 1) :: st) w := E_push (n := 1) rfl
theorem e_43_15 {ls : ab_L} {st : List Value} {w : ab_W} {x y : Int32} : ab_Run ab_mt 43 15 ls (.int y :: .int x :: st) w = ab_Run ab_mt 43 16 ls (.int (x + y) :: st) w := E_ib (f := fun x y => x + y) rfl
theorem e_43_16 {ls : ab_L} {st : List Value} {w : ab_W} {v0 v1 : Value} (h1 : ab_recv ab_mt 38 [v0, v1] w.2 = true) (h8 : ab_w8 st = true) : ab_Run ab_mt 43 16 ls (v1 :: v0 :: st) w = ab_aft 38 43 16 ls st (ab_Cl 38 [v0, v1] w) := E_call2 rfl h1 h8
theorem e_43_19 {ls : ab_L} {st : List Value} {w : ab_W} (h : ab_isL (ls 1) = true) (h2 : (ls 2).isNone = true) : ab_Run ab_mt 43 19 ls st w = ab_Run ab_mt 43 20 ls (ab_gv (ls 1) :: st) w := E_loadl (n := 1) rfl h h2
theorem e_43_20 {ls : ab_L} {st : List Value} {w : ab_W} {x y : Int64} : ab_Run ab_mt 43 20 ls (.long y :: .long x :: st) w = ab_Run ab_mt 43 21 ls (.int (lg_cmp x y) :: st) w := E_lcmp rfl
theorem e_43_21 {ls : ab_L} {st : List Value} {w : ab_W} {x : Int32} : ab_Run ab_mt 43 21 ls (.int x :: st) w = if 0 < x then ab_Run ab_mt 43 30 ls st w else ab_Run ab_mt 43 24 ls st w := E_if_gt rfl
theorem e_43_24 {ls : ab_L} {st : List Value} {w : ab_W} (h : ab_isI (ls 3) = true) : ab_Run ab_mt 43 24 ls st w = ab_Run ab_mt 43 27 (ab_l1 ls 3 (.int (ab_gi (ls 3) + (nI 1)))) st w := E_iinc rfl h
theorem e_43_27 {ls : ab_L} {st : List Value} {w : ab_W} : ab_Run ab_mt 43 27 ls st w = ab_Run ab_mt 43 2 ls st w := E_goto rfl
theorem e_43_30 {ls : ab_L} {st : List Value} {w : ab_W} (h : ab_isI (ls 3) = true) : ab_Run ab_mt 43 30 ls st w = ab_Run ab_mt 43 31 ls (ab_gv (ls 3) :: st) w := E_loadi (n := 1) rfl h
theorem e_43_31 {ls : ab_L} {w : ab_W} {x : Int32} : ab_Run ab_mt 43 31 ls [.int x] w = some (.inl (some (.int x)), w) := E_reti rfl
theorem rv_43 {σ : ab_S} {t : Nat} {x0 : Int64} : ab_recv ab_mt 43 [.ref t, .long x0] σ = ab_isO 1 (σ t) := rfl
theorem e_44_0 {ls : ab_L} {st : List Value} {w : ab_W} (h : ab_isR (ls 0) = true) : ab_Run ab_mt 44 0 ls st w = ab_Run ab_mt 44 1 ls (ab_gv (ls 0) :: st) w := E_loadr (n := 1) rfl h
theorem e_44_1 {ls : ab_L} {st : List Value} {w : ab_W} {a : Nat} (h : ab_isF 1 0 (w.2 a) = true) : ab_Run ab_mt 44 1 ls (.ref a :: st) w = ab_Run ab_mt 44 4 ls (ab_fv 0 (w.2 a) :: st) w := E_get rfl h
theorem e_44_4 {ls : ab_L} {st : List Value} {w : ab_W} {a : Nat} (h : ab_isF 2 2 (w.2 a) = true) : ab_Run ab_mt 44 4 ls (.ref a :: st) w = ab_Run ab_mt 44 7 ls (ab_fv 2 (w.2 a) :: st) w := E_get rfl h
theorem e_44_7 {ls : ab_L} {st : List Value} {w : ab_W} (h : ab_isI (ls 1) = true) : ab_Run ab_mt 44 7 ls st w = ab_Run ab_mt 44 8 ls (ab_gv (ls 1) :: st) w := E_loadi (n := 1) rfl h
theorem e_44_8 {ls : ab_L} {st : List Value} {w : ab_W} : ab_Run ab_mt 44 8 ls st w = ab_Run ab_mt 44 9 ls (.int (nI 0) :: st) w := E_push (n := 1) rfl
theorem e_44_9 {ls : ab_L} {st : List Value} {w : ab_W} {v0 v1 v2 : Value} (h1 : ab_recv ab_mt 53 [v0, v1, v2] w.2 = true) (h8 : ab_w8 st = true) : ab_Run ab_mt 44 9 ls (v2 :: v1 :: v0 :: st) w = ab_aft 53 44 9 ls st (ab_Cl 53 [v0, v1, v2] w) := E_call3 rfl h1 h8
theorem e_44_12 {ls : ab_L} {st : List Value} {w : ab_W} {x : Int32} : ab_Run ab_mt 44 12 ls (.int x :: st) w = ab_Run ab_mt 44 13 (ab_l1 ls 2 (.int x)) st w := E_stori (n := 1) rfl
theorem e_44_13 {ls : ab_L} {st : List Value} {w : ab_W} (h : ab_isR (ls 0) = true) : ab_Run ab_mt 44 13 ls st w = ab_Run ab_mt 44 14 ls (ab_gv (ls 0) :: st) w := E_loadr (n := 1) rfl h
theorem e_44_14 {ls : ab_L} {st : List Value} {w : ab_W} (h : ab_isI (ls 2) = true) : ab_Run ab_mt 44 14 ls st w = ab_Run ab_mt 44 15 ls (ab_gv (ls 2) :: st) w := E_loadi (n := 1) rfl h
theorem e_44_15 {ls : ab_L} {st : List Value} {w : ab_W} {v0 v1 : Value} (h1 : ab_recv ab_mt 38 [v0, v1] w.2 = true) (h8 : ab_w8 st = true) : ab_Run ab_mt 44 15 ls (v1 :: v0 :: st) w = ab_aft 38 44 15 ls st (ab_Cl 38 [v0, v1] w) := E_call2 rfl h1 h8
theorem e_44_18 {ls : ab_L} {st : List Value} {w : ab_W} (h : ab_isR (ls 0) = true) : ab_Run ab_mt 44 18 ls st w = ab_Run ab_mt 44 19 ls (ab_gv (ls 0) :: st) w := E_loadr (n := 1) rfl h
theorem e_44_19 {ls : ab_L} {st : List Value} {w : ab_W} (h : ab_isI (ls 2) = true) : ab_Run ab_mt 44 19 ls st w = ab_Run ab_mt 44 20 ls (ab_gv (ls 2) :: st) w := E_loadi (n := 1) rfl h
theorem e_44_20 {ls : ab_L} {st : List Value} {w : ab_W} {v0 v1 : Value} (h1 : ab_recv ab_mt 39 [v0, v1] w.2 = true) (h8 : ab_w8 st = true) : ab_Run ab_mt 44 20 ls (v1 :: v0 :: st) w = ab_aft 39 44 20 ls st (ab_Cl 39 [v0, v1] w) := E_call2 rfl h1 h8
theorem e_44_23 {ls : ab_L} {st : List Value} {w : ab_W} (h : ab_isR (ls 0) = true) : ab_Run ab_mt 44 23 ls st w = ab_Run ab_mt 44 24 ls (ab_gv (ls 0) :: st) w := E_loadr (n := 1) rfl h
theorem e_44_24 {ls : ab_L} {st : List Value} {w : ab_W} {a : Nat} (h : ab_isF 1 0 (w.2 a) = true) : ab_Run ab_mt 44 24 ls (.ref a :: st) w = ab_Run ab_mt 44 27 ls (ab_fv 0 (w.2 a) :: st) w := E_get rfl h
theorem e_44_27 {ls : ab_L} {st : List Value} {w : ab_W} {a : Nat} (h : ab_isF 2 2 (w.2 a) = true) : ab_Run ab_mt 44 27 ls (.ref a :: st) w = ab_Run ab_mt 44 30 ls (ab_fv 2 (w.2 a) :: st) w := E_get rfl h
theorem e_44_30 {ls : ab_L} {st : List Value} {w : ab_W} (h : ab_isI (ls 1) = true) : ab_Run ab_mt 44 30 ls st w = ab_Run ab_mt 44 31 ls (ab_gv (ls 1) :: st) w := E_loadi (n := 1) rfl h
theorem e_44_31 {ls : ab_L} {st : List Value} {w : ab_W} : ab_Run ab_mt 44 31 ls st w = ab_Run ab_mt 44 32 ls (.int (nI 1) :: st) w := E_push (n := 1) rfl
theorem e_44_32 {ls : ab_L} {st : List Value} {w : ab_W} {v0 v1 v2 : Value} (h1 : ab_recv ab_mt 53 [v0, v1, v2] w.2 = true) (h8 : ab_w8 st = true) : ab_Run ab_mt 44 32 ls (v2 :: v1 :: v0 :: st) w = ab_aft 53 44 32 ls st (ab_Cl 53 [v0, v1, v2] w) := E_call3 rfl h1 h8
theorem e_44_35 {ls : ab_L} {st : List Value} {w : ab_W} {x : Int32} : ab_Run ab_mt 44 35 ls (.int x :: st) w = ab_Run ab_mt 44 36 ls (.long x.toInt64 :: st) w := E_i2l rfl
theorem e_44_36 {ls : ab_L} {st : List Value} {w : ab_W} {x y : Int64} : ab_Run ab_mt 44 36 ls (.long y :: .long x :: st) w = ab_Run ab_mt 44 37 ls (.long (x * y) :: st) w := E_lb (f := fun x y => x * y) rfl
theorem e_44_37 {ls : ab_L} {st : List Value} {w : ab_W} : ab_Run ab_mt 44 37 ls st w = ab_Run ab_mt 44 40 ls (.long (lN 480) :: st) w := E_push (n := 3) rfl
theorem e_44_40 {ls : ab_L} {st : List Value} {w : ab_W} {v0 v1 : Value} (h1 : ab_recv ab_mt 25 [v0, v1] w.2 = true) (h8 : ab_w8 st = true) : ab_Run ab_mt 44 40 ls (v1 :: v0 :: st) w = ab_aft 25 44 40 ls st (ab_Cl 25 [v0, v1] w) := E_call2 rfl h1 h8
theorem e_44_43 {ls : ab_L} {st : List Value} {w : ab_W} {x y : Int64} : ab_Run ab_mt 44 43 ls (.long y :: .long x :: st) w = ab_Run ab_mt 44 44 ls (.long (x + y) :: st) w := E_lb (f := fun x y => x + y) rfl
theorem e_44_44 {ls : ab_L} {w : ab_W} {x : Int64} : ab_Run ab_mt 44 44 ls [.long x] w = some (.inl (some (.long x)), w) := E_retl rfl
theorem rv_44 {σ : ab_S} {t : Nat} {x0 : Int32} : ab_recv ab_mt 44 [.ref t, .int x0] σ = ab_isO 1 (σ t) := rfl
theorem e_45_0 {ls : ab_L} {st : List Value} {w : ab_W} (h : ab_isR (ls 0) = true) : ab_Run ab_mt 45 0 ls st w = ab_Run ab_mt 45 1 ls (ab_gv (ls 0) :: st) w := E_loadr (n := 1) rfl h
theorem e_45_1 {ls : ab_L} {st : List Value} {w : ab_W} (h : ab_isI (ls 1) = true) : ab_Run ab_mt 45 1 ls st w = ab_Run ab_mt 45 2 ls (ab_gv (ls 1) :: st) w := E_loadi (n := 1) rfl h
theorem e_45_2 {ls : ab_L} {st : List Value} {w : ab_W} {v0 v1 : Value} (h1 : ab_recv ab_mt 44 [v0, v1] w.2 = true) (h8 : ab_w8 st = true) : ab_Run ab_mt 45 2 ls (v1 :: v0 :: st) w = ab_aft 44 45 2 ls st (ab_Cl 44 [v0, v1] w) := E_call2 rfl h1 h8
theorem e_45_5 {ls : ab_L} {st : List Value} {w : ab_W} {x : Int64} : ab_Run ab_mt 45 5 ls (.long x :: st) w = ab_Run ab_mt 45 6 (ab_l2 ls 2 (.long x)) st w := E_storl (n := 1) rfl
theorem e_45_6 {ls : ab_L} {st : List Value} {w : ab_W} : ab_Run ab_mt 45 6 ls st w = ab_Run ab_mt 45 7 ls (.long (lN 0) :: st) w := E_push (n := 1) rfl
theorem e_45_7 {ls : ab_L} {st : List Value} {w : ab_W} {x : Int64} : ab_Run ab_mt 45 7 ls (.long x :: st) w = ab_Run ab_mt 45 9 (ab_l2 ls 4 (.long x)) st w := E_storl (n := 2) rfl
theorem e_45_9 {ls : ab_L} {st : List Value} {w : ab_W} : ab_Run ab_mt 45 9 ls st w = ab_Run ab_mt 45 10 ls (.int (nI 0) :: st) w := E_push (n := 1) rfl
theorem e_45_10 {ls : ab_L} {st : List Value} {w : ab_W} {x : Int32} : ab_Run ab_mt 45 10 ls (.int x :: st) w = ab_Run ab_mt 45 12 (ab_l1 ls 6 (.int x)) st w := E_stori (n := 2) rfl
theorem e_45_12 {ls : ab_L} {st : List Value} {w : ab_W} (h : ab_isI (ls 6) = true) : ab_Run ab_mt 45 12 ls st w = ab_Run ab_mt 45 14 ls (ab_gv (ls 6) :: st) w := E_loadi (n := 2) rfl h
theorem e_45_14 {ls : ab_L} {st : List Value} {w : ab_W} (h : ab_isR (ls 0) = true) : ab_Run ab_mt 45 14 ls st w = ab_Run ab_mt 45 15 ls (ab_gv (ls 0) :: st) w := E_loadr (n := 1) rfl h
theorem e_45_15 {ls : ab_L} {st : List Value} {w : ab_W} {a : Nat} (h : ab_isF 1 0 (w.2 a) = true) : ab_Run ab_mt 45 15 ls (.ref a :: st) w = ab_Run ab_mt 45 18 ls (ab_fv 0 (w.2 a) :: st) w := E_get rfl h
theorem e_45_18 {ls : ab_L} {st : List Value} {w : ab_W} {a : Nat} (h : ab_isF 2 2 (w.2 a) = true) : ab_Run ab_mt 45 18 ls (.ref a :: st) w = ab_Run ab_mt 45 21 ls (ab_fv 2 (w.2 a) :: st) w := E_get rfl h
theorem e_45_21 {ls : ab_L} {st : List Value} {w : ab_W} {a : Nat} (h : ab_isF 3 3 (w.2 a) = true) : ab_Run ab_mt 45 21 ls (.ref a :: st) w = ab_Run ab_mt 45 24 ls (ab_fv 3 (w.2 a) :: st) w := E_get rfl h
theorem e_45_24 {ls : ab_L} {st : List Value} {w : ab_W} {x y : Int32} : ab_Run ab_mt 45 24 ls (.int y :: .int x :: st) w = if y ≤ x then ab_Run ab_mt 45 67 ls st w else ab_Run ab_mt 45 27 ls st w := E_ic_ge rfl
theorem e_45_27 {ls : ab_L} {st : List Value} {w : ab_W} (h : ab_isR (ls 0) = true) : ab_Run ab_mt 45 27 ls st w = ab_Run ab_mt 45 28 ls (ab_gv (ls 0) :: st) w := E_loadr (n := 1) rfl h
theorem e_45_28 {ls : ab_L} {st : List Value} {w : ab_W} (h : ab_isI (ls 6) = true) : ab_Run ab_mt 45 28 ls st w = ab_Run ab_mt 45 30 ls (ab_gv (ls 6) :: st) w := E_loadi (n := 2) rfl h
theorem e_45_30 {ls : ab_L} {st : List Value} {w : ab_W} {v0 v1 : Value} (h1 : ab_recv ab_mt 44 [v0, v1] w.2 = true) (h8 : ab_w8 st = true) : ab_Run ab_mt 45 30 ls (v1 :: v0 :: st) w = ab_aft 44 45 30 ls st (ab_Cl 44 [v0, v1] w) := E_call2 rfl h1 h8
theorem e_45_33 {ls : ab_L} {st : List Value} {w : ab_W} {x : Int64} : ab_Run ab_mt 45 33 ls (.long x :: st) w = ab_Run ab_mt 45 35 (ab_l2 ls 7 (.long x)) st w := E_storl (n := 2) rfl
theorem e_45_35 {ls : ab_L} {st : List Value} {w : ab_W} (h : ab_isL (ls 7) = true) (h2 : (ls 8).isNone = true) : ab_Run ab_mt 45 35 ls st w = ab_Run ab_mt 45 37 ls (ab_gv (ls 7) :: st) w := E_loadl (n := 2) rfl h h2
theorem e_45_37 {ls : ab_L} {st : List Value} {w : ab_W} (h : ab_isL (ls 2) = true) (h2 : (ls 3).isNone = true) : ab_Run ab_mt 45 37 ls st w = ab_Run ab_mt 45 38 ls (ab_gv (ls 2) :: st) w := E_loadl (n := 1) rfl h h2
theorem e_45_38 {ls : ab_L} {st : List Value} {w : ab_W} {x y : Int64} : ab_Run ab_mt 45 38 ls (.long y :: .long x :: st) w = ab_Run ab_mt 45 39 ls (.int (lg_cmp x y) :: st) w := E_lcmp rfl
theorem e_45_39 {ls : ab_L} {st : List Value} {w : ab_W} {x : Int32} : ab_Run ab_mt 45 39 ls (.int x :: st) w = if x < 0 then ab_Run ab_mt 45 55 ls st w else ab_Run ab_mt 45 42 ls st w := E_if_lt rfl
theorem e_45_42 {ls : ab_L} {st : List Value} {w : ab_W} (h : ab_isL (ls 7) = true) (h2 : (ls 8).isNone = true) : ab_Run ab_mt 45 42 ls st w = ab_Run ab_mt 45 44 ls (ab_gv (ls 7) :: st) w := E_loadl (n := 2) rfl h h2
theorem e_45_44 {ls : ab_L} {st : List Value} {w : ab_W} (h : ab_isL (ls 2) = true) (h2 : (ls 3).isNone = true) : ab_Run ab_mt 45 44 ls st w = ab_Run ab_mt 45 45 ls (ab_gv (ls 2) :: st) w := E_loadl (n := 1) rfl h h2
theorem e_45_45 {ls : ab_L} {st : List Value} {w : ab_W} {x y : Int64} : ab_Run ab_mt 45 45 ls (.long y :: .long x :: st) w = ab_Run ab_mt 45 46 ls (.int (lg_cmp x y) :: st) w := E_lcmp rfl
theorem e_45_46 {ls : ab_L} {st : List Value} {w : ab_W} {x : Int32} : ab_Run ab_mt 45 46 ls (.int x :: st) w = if x = 0 then ab_Run ab_mt 45 49 ls st w else ab_Run ab_mt 45 61 ls st w := E_if_ne rfl
theorem e_45_49 {ls : ab_L} {st : List Value} {w : ab_W} (h : ab_isI (ls 6) = true) : ab_Run ab_mt 45 49 ls st w = ab_Run ab_mt 45 51 ls (ab_gv (ls 6) :: st) w := E_loadi (n := 2) rfl h
theorem e_45_51 {ls : ab_L} {st : List Value} {w : ab_W} (h : ab_isI (ls 1) = true) : ab_Run ab_mt 45 51 ls st w = ab_Run ab_mt 45 52 ls (ab_gv (ls 1) :: st) w := E_loadi (n := 1) rfl h
theorem e_45_52 {ls : ab_L} {st : List Value} {w : ab_W} {x y : Int32} : ab_Run ab_mt 45 52 ls (.int y :: .int x :: st) w = if y ≤ x then ab_Run ab_mt 45 61 ls st w else ab_Run ab_mt 45 55 ls st w := E_ic_ge rfl
theorem e_45_55 {ls : ab_L} {st : List Value} {w : ab_W} (h : ab_isL (ls 4) = true) (h2 : (ls 5).isNone = true) : ab_Run ab_mt 45 55 ls st w = ab_Run ab_mt 45 57 ls (ab_gv (ls 4) :: st) w := E_loadl (n := 2) rfl h h2
theorem e_45_57 {ls : ab_L} {st : List Value} {w : ab_W} : ab_Run ab_mt 45 57 ls st w = ab_Run ab_mt 45 58 ls (.long (lN 1) :: st) w := E_push (n := 1) rfl
theorem e_45_58 {ls : ab_L} {st : List Value} {w : ab_W} {x y : Int64} : ab_Run ab_mt 45 58 ls (.long y :: .long x :: st) w = ab_Run ab_mt 45 59 ls (.long (x + y) :: st) w := E_lb (f := fun x y => x + y) rfl
theorem e_45_59 {ls : ab_L} {st : List Value} {w : ab_W} {x : Int64} : ab_Run ab_mt 45 59 ls (.long x :: st) w = ab_Run ab_mt 45 61 (ab_l2 ls 4 (.long x)) st w := E_storl (n := 2) rfl
theorem e_45_61 {ls : ab_L} {st : List Value} {w : ab_W} (h : ab_isI (ls 6) = true) : ab_Run ab_mt 45 61 ls st w = ab_Run ab_mt 45 64 (ab_l1 ls 6 (.int (ab_gi (ls 6) + (nI 1)))) st w := E_iinc rfl h
theorem e_45_64 {ls : ab_L} {st : List Value} {w : ab_W} : ab_Run ab_mt 45 64 ls st w = ab_Run ab_mt 45 12 ls st w := E_goto rfl
theorem e_45_67 {ls : ab_L} {st : List Value} {w : ab_W} (h : ab_isL (ls 4) = true) (h2 : (ls 5).isNone = true) : ab_Run ab_mt 45 67 ls st w = ab_Run ab_mt 45 69 ls (ab_gv (ls 4) :: st) w := E_loadl (n := 2) rfl h h2
theorem e_45_69 {ls : ab_L} {w : ab_W} {x : Int64} : ab_Run ab_mt 45 69 ls [.long x] w = some (.inl (some (.long x)), w) := E_retl rfl
theorem rv_45 {σ : ab_S} {t : Nat} {x0 : Int32} : ab_recv ab_mt 45 [.ref t, .int x0] σ = ab_isO 1 (σ t) := rfl
theorem e_46_0 {ls : ab_L} {st : List Value} {w : ab_W} : ab_Run ab_mt 46 0 ls st w = ab_Run ab_mt 46 1 ls (.long (lN 0) :: st) w := E_push (n := 1) rfl
theorem e_46_1 {ls : ab_L} {st : List Value} {w : ab_W} {x : Int64} : ab_Run ab_mt 46 1 ls (.long x :: st) w = ab_Run ab_mt 46 2 (ab_l2 ls 1 (.long x)) st w := E_storl (n := 1) rfl
theorem e_46_2 {ls : ab_L} {st : List Value} {w : ab_W} : ab_Run ab_mt 46 2 ls st w = ab_Run ab_mt 46 3 ls (.int (nI 0) :: st) w := E_push (n := 1) rfl
theorem e_46_3 {ls : ab_L} {st : List Value} {w : ab_W} {x : Int32} : ab_Run ab_mt 46 3 ls (.int x :: st) w = ab_Run ab_mt 46 4 (ab_l1 ls 3 (.int x)) st w := E_stori (n := 1) rfl
theorem e_46_4 {ls : ab_L} {st : List Value} {w : ab_W} (h : ab_isI (ls 3) = true) : ab_Run ab_mt 46 4 ls st w = ab_Run ab_mt 46 5 ls (ab_gv (ls 3) :: st) w := E_loadi (n := 1) rfl h
theorem e_46_5 {ls : ab_L} {st : List Value} {w : ab_W} (h : ab_isR (ls 0) = true) : ab_Run ab_mt 46 5 ls st w = ab_Run ab_mt 46 6 ls (ab_gv (ls 0) :: st) w := E_loadr (n := 1) rfl h
theorem e_46_6 {ls : ab_L} {st : List Value} {w : ab_W} {a : Nat} (h : ab_isF 1 0 (w.2 a) = true) : ab_Run ab_mt 46 6 ls (.ref a :: st) w = ab_Run ab_mt 46 9 ls (ab_fv 0 (w.2 a) :: st) w := E_get rfl h
theorem e_46_9 {ls : ab_L} {st : List Value} {w : ab_W} {a : Nat} (h : ab_isF 2 0 (w.2 a) = true) : ab_Run ab_mt 46 9 ls (.ref a :: st) w = ab_Run ab_mt 46 12 ls (ab_fv 0 (w.2 a) :: st) w := E_get rfl h
theorem e_46_12 {ls : ab_L} {st : List Value} {w : ab_W} {a : Nat} (h : ab_isF 3 3 (w.2 a) = true) : ab_Run ab_mt 46 12 ls (.ref a :: st) w = ab_Run ab_mt 46 15 ls (ab_fv 3 (w.2 a) :: st) w := E_get rfl h
theorem e_46_15 {ls : ab_L} {st : List Value} {w : ab_W} {x y : Int32} : ab_Run ab_mt 46 15 ls (.int y :: .int x :: st) w = if y ≤ x then ab_Run ab_mt 46 53 ls st w else ab_Run ab_mt 46 18 ls st w := E_ic_ge rfl
theorem e_46_18 {ls : ab_L} {st : List Value} {w : ab_W} (h : ab_isL (ls 1) = true) (h2 : (ls 2).isNone = true) : ab_Run ab_mt 46 18 ls st w = ab_Run ab_mt 46 19 ls (ab_gv (ls 1) :: st) w := E_loadl (n := 1) rfl h h2
theorem e_46_19 {ls : ab_L} {st : List Value} {w : ab_W} (h : ab_isR (ls 0) = true) : ab_Run ab_mt 46 19 ls st w = ab_Run ab_mt 46 20 ls (ab_gv (ls 0) :: st) w := E_loadr (n := 1) rfl h
theorem e_46_20 {ls : ab_L} {st : List Value} {w : ab_W} {a : Nat} (h : ab_isF 1 0 (w.2 a) = true) : ab_Run ab_mt 46 20 ls (.ref a :: st) w = ab_Run ab_mt 46 23 ls (ab_fv 0 (w.2 a) :: st) w := E_get rfl h
theorem e_46_23 {ls : ab_L} {st : List Value} {w : ab_W} {a : Nat} (h : ab_isF 2 0 (w.2 a) = true) : ab_Run ab_mt 46 23 ls (.ref a :: st) w = ab_Run ab_mt 46 26 ls (ab_fv 0 (w.2 a) :: st) w := E_get rfl h
theorem e_46_26 {ls : ab_L} {st : List Value} {w : ab_W} (h : ab_isI (ls 3) = true) : ab_Run ab_mt 46 26 ls st w = ab_Run ab_mt 46 27 ls (ab_gv (ls 3) :: st) w := E_loadi (n := 1) rfl h
theorem e_46_27 {ls : ab_L} {st : List Value} {w : ab_W} : ab_Run ab_mt 46 27 ls st w = ab_Run ab_mt 46 28 ls (.int (nI 0) :: st) w := E_push (n := 1) rfl
theorem e_46_28 {ls : ab_L} {st : List Value} {w : ab_W} {v0 v1 v2 : Value} (h1 : ab_recv ab_mt 53 [v0, v1, v2] w.2 = true) (h8 : ab_w8 st = true) : ab_Run ab_mt 46 28 ls (v2 :: v1 :: v0 :: st) w = ab_aft 53 46 28 ls st (ab_Cl 53 [v0, v1, v2] w) := E_call3 rfl h1 h8
theorem e_46_31 {ls : ab_L} {st : List Value} {w : ab_W} (h : ab_isR (ls 0) = true) : ab_Run ab_mt 46 31 ls st w = ab_Run ab_mt 46 32 ls (ab_gv (ls 0) :: st) w := E_loadr (n := 1) rfl h
theorem e_46_32 {ls : ab_L} {st : List Value} {w : ab_W} {a : Nat} (h : ab_isF 1 0 (w.2 a) = true) : ab_Run ab_mt 46 32 ls (.ref a :: st) w = ab_Run ab_mt 46 35 ls (ab_fv 0 (w.2 a) :: st) w := E_get rfl h
theorem e_46_35 {ls : ab_L} {st : List Value} {w : ab_W} {a : Nat} (h : ab_isF 2 0 (w.2 a) = true) : ab_Run ab_mt 46 35 ls (.ref a :: st) w = ab_Run ab_mt 46 38 ls (ab_fv 0 (w.2 a) :: st) w := E_get rfl h
theorem e_46_38 {ls : ab_L} {st : List Value} {w : ab_W} (h : ab_isI (ls 3) = true) : ab_Run ab_mt 46 38 ls st w = ab_Run ab_mt 46 39 ls (ab_gv (ls 3) :: st) w := E_loadi (n := 1) rfl h
theorem e_46_39 {ls : ab_L} {st : List Value} {w : ab_W} : ab_Run ab_mt 46 39 ls st w = ab_Run ab_mt 46 40 ls (.int (nI 1) :: st) w := E_push (n := 1) rfl
theorem e_46_40 {ls : ab_L} {st : List Value} {w : ab_W} {v0 v1 v2 : Value} (h1 : ab_recv ab_mt 53 [v0, v1, v2] w.2 = true) (h8 : ab_w8 st = true) : ab_Run ab_mt 46 40 ls (v2 :: v1 :: v0 :: st) w = ab_aft 53 46 40 ls st (ab_Cl 53 [v0, v1, v2] w) := E_call3 rfl h1 h8
theorem e_46_43 {ls : ab_L} {st : List Value} {w : ab_W} {x y : Int32} : ab_Run ab_mt 46 43 ls (.int y :: .int x :: st) w = ab_Run ab_mt 46 44 ls (.int (x * y) :: st) w := E_ib (f := fun x y => x * y) rfl
theorem e_46_44 {ls : ab_L} {st : List Value} {w : ab_W} {x : Int32} : ab_Run ab_mt 46 44 ls (.int x :: st) w = ab_Run ab_mt 46 45 ls (.long x.toInt64 :: st) w := E_i2l rfl
theorem e_46_45 {ls : ab_L} {st : List Value} {w : ab_W} {x y : Int64} : ab_Run ab_mt 46 45 ls (.long y :: .long x :: st) w = ab_Run ab_mt 46 46 ls (.long (x + y) :: st) w := E_lb (f := fun x y => x + y) rfl
theorem e_46_46 {ls : ab_L} {st : List Value} {w : ab_W} {x : Int64} : ab_Run ab_mt 46 46 ls (.long x :: st) w = ab_Run ab_mt 46 47 (ab_l2 ls 1 (.long x)) st w := E_storl (n := 1) rfl
theorem e_46_47 {ls : ab_L} {st : List Value} {w : ab_W} (h : ab_isI (ls 3) = true) : ab_Run ab_mt 46 47 ls st w = ab_Run ab_mt 46 50 (ab_l1 ls 3 (.int (ab_gi (ls 3) + (nI 1)))) st w := E_iinc rfl h
theorem e_46_50 {ls : ab_L} {st : List Value} {w : ab_W} : ab_Run ab_mt 46 50 ls st w = ab_Run ab_mt 46 4 ls st w := E_goto rfl
theorem e_46_53 {ls : ab_L} {st : List Value} {w : ab_W} (h : ab_isL (ls 1) = true) (h2 : (ls 2).isNone = true) : ab_Run ab_mt 46 53 ls st w = ab_Run ab_mt 46 54 ls (ab_gv (ls 1) :: st) w := E_loadl (n := 1) rfl h h2
theorem e_46_54 {ls : ab_L} {w : ab_W} {x : Int64} : ab_Run ab_mt 46 54 ls [.long x] w = some (.inl (some (.long x)), w) := E_retl rfl
theorem rv_46 {σ : ab_S} {t : Nat} : ab_recv ab_mt 46 [.ref t] σ = ab_isO 1 (σ t) := rfl
theorem e_47_0 {ls : ab_L} {st : List Value} {w : ab_W} : ab_Run ab_mt 47 0 ls st w = ab_Run ab_mt 47 1 ls (.long (lN 0) :: st) w := E_push (n := 1) rfl
theorem e_47_1 {ls : ab_L} {st : List Value} {w : ab_W} {x : Int64} : ab_Run ab_mt 47 1 ls (.long x :: st) w = ab_Run ab_mt 47 2 (ab_l2 ls 1 (.long x)) st w := E_storl (n := 1) rfl
theorem e_47_2 {ls : ab_L} {st : List Value} {w : ab_W} : ab_Run ab_mt 47 2 ls st w = ab_Run ab_mt 47 3 ls (.int (nI 0) :: st) w := E_push (n := 1) rfl
theorem e_47_3 {ls : ab_L} {st : List Value} {w : ab_W} {x : Int32} : ab_Run ab_mt 47 3 ls (.int x :: st) w = ab_Run ab_mt 47 4 (ab_l1 ls 3 (.int x)) st w := E_stori (n := 1) rfl
theorem e_47_4 {ls : ab_L} {st : List Value} {w : ab_W} (h : ab_isI (ls 3) = true) : ab_Run ab_mt 47 4 ls st w = ab_Run ab_mt 47 5 ls (ab_gv (ls 3) :: st) w := E_loadi (n := 1) rfl h
theorem e_47_5 {ls : ab_L} {st : List Value} {w : ab_W} (h : ab_isR (ls 0) = true) : ab_Run ab_mt 47 5 ls st w = ab_Run ab_mt 47 6 ls (ab_gv (ls 0) :: st) w := E_loadr (n := 1) rfl h
theorem e_47_6 {ls : ab_L} {st : List Value} {w : ab_W} {a : Nat} (h : ab_isF 1 0 (w.2 a) = true) : ab_Run ab_mt 47 6 ls (.ref a :: st) w = ab_Run ab_mt 47 9 ls (ab_fv 0 (w.2 a) :: st) w := E_get rfl h
theorem e_47_9 {ls : ab_L} {st : List Value} {w : ab_W} {a : Nat} (h : ab_isF 2 0 (w.2 a) = true) : ab_Run ab_mt 47 9 ls (.ref a :: st) w = ab_Run ab_mt 47 12 ls (ab_fv 0 (w.2 a) :: st) w := E_get rfl h
theorem e_47_12 {ls : ab_L} {st : List Value} {w : ab_W} {a : Nat} (h : ab_isF 3 3 (w.2 a) = true) : ab_Run ab_mt 47 12 ls (.ref a :: st) w = ab_Run ab_mt 47 15 ls (ab_fv 3 (w.2 a) :: st) w := E_get rfl h
theorem e_47_15 {ls : ab_L} {st : List Value} {w : ab_W} {x y : Int32} : ab_Run ab_mt 47 15 ls (.int y :: .int x :: st) w = if y ≤ x then ab_Run ab_mt 47 44 ls st w else ab_Run ab_mt 47 18 ls st w := E_ic_ge rfl
theorem e_47_18 {ls : ab_L} {st : List Value} {w : ab_W} (h : ab_isL (ls 1) = true) (h2 : (ls 2).isNone = true) : ab_Run ab_mt 47 18 ls st w = ab_Run ab_mt 47 19 ls (ab_gv (ls 1) :: st) w := E_loadl (n := 1) rfl h h2
theorem e_47_19 {ls : ab_L} {st : List Value} {w : ab_W} (h : ab_isR (ls 0) = true) : ab_Run ab_mt 47 19 ls st w = ab_Run ab_mt 47 20 ls (ab_gv (ls 0) :: st) w := E_loadr (n := 1) rfl h
theorem e_47_20 {ls : ab_L} {st : List Value} {w : ab_W} {a : Nat} (h : ab_isF 1 0 (w.2 a) = true) : ab_Run ab_mt 47 20 ls (.ref a :: st) w = ab_Run ab_mt 47 23 ls (ab_fv 0 (w.2 a) :: st) w := E_get rfl h
theorem e_47_23 {ls : ab_L} {st : List Value} {w : ab_W} {a : Nat} (h : ab_isF 2 0 (w.2 a) = true) : ab_Run ab_mt 47 23 ls (.ref a :: st) w = ab_Run ab_mt 47 26 ls (ab_fv 0 (w.2 a) :: st) w := E_get rfl h
theorem e_47_26 {ls : ab_L} {st : List Value} {w : ab_W} (h : ab_isI (ls 3) = true) : ab_Run ab_mt 47 26 ls st w = ab_Run ab_mt 47 27 ls (ab_gv (ls 3) :: st) w := E_loadi (n := 1) rfl h
theorem e_47_27 {ls : ab_L} {st : List Value} {w : ab_W} : ab_Run ab_mt 47 27 ls st w = ab_Run ab_mt 47 28 ls (.int (nI 3) :: st) w := E_push (n := 1) rfl
theorem e_47_28 {ls : ab_L} {st : List Value} {w : ab_W} {v0 v1 v2 : Value} (h1 : ab_recv ab_mt 53 [v0, v1, v2] w.2 = true) (h8 : ab_w8 st = true) : ab_Run ab_mt 47 28 ls (v2 :: v1 :: v0 :: st) w = ab_aft 53 47 28 ls st (ab_Cl 53 [v0, v1, v2] w) := E_call3 rfl h1 h8
theorem e_47_31 {ls : ab_L} {st : List Value} {w : ab_W} {x : Int32} : ab_Run ab_mt 47 31 ls (.int x :: st) w = ab_Run ab_mt 47 32 ls (.long x.toInt64 :: st) w := E_i2l rfl
theorem e_47_32 {ls : ab_L} {st : List Value} {w : ab_W} : ab_Run ab_mt 47 32 ls st w = ab_Run ab_mt 47 35 ls (.long (lN 1000) :: st) w := E_push (n := 3) rfl
theorem e_47_35 {ls : ab_L} {st : List Value} {w : ab_W} {x y : Int64} : ab_Run ab_mt 47 35 ls (.long y :: .long x :: st) w = ab_Run ab_mt 47 36 ls (.long (x * y) :: st) w := E_lb (f := fun x y => x * y) rfl
theorem e_47_36 {ls : ab_L} {st : List Value} {w : ab_W} {x y : Int64} : ab_Run ab_mt 47 36 ls (.long y :: .long x :: st) w = ab_Run ab_mt 47 37 ls (.long (x + y) :: st) w := E_lb (f := fun x y => x + y) rfl
theorem e_47_37 {ls : ab_L} {st : List Value} {w : ab_W} {x : Int64} : ab_Run ab_mt 47 37 ls (.long x :: st) w = ab_Run ab_mt 47 38 (ab_l2 ls 1 (.long x)) st w := E_storl (n := 1) rfl
theorem e_47_38 {ls : ab_L} {st : List Value} {w : ab_W} (h : ab_isI (ls 3) = true) : ab_Run ab_mt 47 38 ls st w = ab_Run ab_mt 47 41 (ab_l1 ls 3 (.int (ab_gi (ls 3) + (nI 1)))) st w := E_iinc rfl h
theorem e_47_41 {ls : ab_L} {st : List Value} {w : ab_W} : ab_Run ab_mt 47 41 ls st w = ab_Run ab_mt 47 4 ls st w := E_goto rfl
theorem e_47_44 {ls : ab_L} {st : List Value} {w : ab_W} (h : ab_isL (ls 1) = true) (h2 : (ls 2).isNone = true) : ab_Run ab_mt 47 44 ls st w = ab_Run ab_mt 47 45 ls (ab_gv (ls 1) :: st) w := E_loadl (n := 1) rfl h h2
theorem e_47_45 {ls : ab_L} {w : ab_W} {x : Int64} : ab_Run ab_mt 47 45 ls [.long x] w = some (.inl (some (.long x)), w) := E_retl rfl
theorem rv_47 {σ : ab_S} {t : Nat} : ab_recv ab_mt 47 [.ref t] σ = ab_isO 1 (σ t) := rfl
theorem e_48_0 {ls : ab_L} {st : List Value} {w : ab_W} : ab_Run ab_mt 48 0 ls st w = ab_Run ab_mt 48 1 ls (.long (lN 0) :: st) w := E_push (n := 1) rfl
theorem e_48_1 {ls : ab_L} {st : List Value} {w : ab_W} {x : Int64} : ab_Run ab_mt 48 1 ls (.long x :: st) w = ab_Run ab_mt 48 2 (ab_l2 ls 2 (.long x)) st w := E_storl (n := 1) rfl
theorem e_48_2 {ls : ab_L} {st : List Value} {w : ab_W} : ab_Run ab_mt 48 2 ls st w = ab_Run ab_mt 48 3 ls (.int (nI 0) :: st) w := E_push (n := 1) rfl
theorem e_48_3 {ls : ab_L} {st : List Value} {w : ab_W} {x : Int32} : ab_Run ab_mt 48 3 ls (.int x :: st) w = ab_Run ab_mt 48 5 (ab_l1 ls 4 (.int x)) st w := E_stori (n := 2) rfl
theorem e_48_5 {ls : ab_L} {st : List Value} {w : ab_W} (h : ab_isI (ls 4) = true) : ab_Run ab_mt 48 5 ls st w = ab_Run ab_mt 48 7 ls (ab_gv (ls 4) :: st) w := E_loadi (n := 2) rfl h
theorem e_48_7 {ls : ab_L} {st : List Value} {w : ab_W} (h : ab_isR (ls 0) = true) : ab_Run ab_mt 48 7 ls st w = ab_Run ab_mt 48 8 ls (ab_gv (ls 0) :: st) w := E_loadr (n := 1) rfl h
theorem e_48_8 {ls : ab_L} {st : List Value} {w : ab_W} {a : Nat} (h : ab_isF 1 0 (w.2 a) = true) : ab_Run ab_mt 48 8 ls (.ref a :: st) w = ab_Run ab_mt 48 11 ls (ab_fv 0 (w.2 a) :: st) w := E_get rfl h
theorem e_48_11 {ls : ab_L} {st : List Value} {w : ab_W} {a : Nat} (h : ab_isF 2 0 (w.2 a) = true) : ab_Run ab_mt 48 11 ls (.ref a :: st) w = ab_Run ab_mt 48 14 ls (ab_fv 0 (w.2 a) :: st) w := E_get rfl h
theorem e_48_14 {ls : ab_L} {st : List Value} {w : ab_W} {a : Nat} (h : ab_isF 3 3 (w.2 a) = true) : ab_Run ab_mt 48 14 ls (.ref a :: st) w = ab_Run ab_mt 48 17 ls (ab_fv 3 (w.2 a) :: st) w := E_get rfl h
theorem e_48_17 {ls : ab_L} {st : List Value} {w : ab_W} {x y : Int32} : ab_Run ab_mt 48 17 ls (.int y :: .int x :: st) w = if y ≤ x then ab_Run ab_mt 48 64 ls st w else ab_Run ab_mt 48 20 ls st w := E_ic_ge rfl
theorem e_48_20 {ls : ab_L} {st : List Value} {w : ab_W} (h : ab_isR (ls 0) = true) : ab_Run ab_mt 48 20 ls st w = ab_Run ab_mt 48 21 ls (ab_gv (ls 0) :: st) w := E_loadr (n := 1) rfl h
theorem e_48_21 {ls : ab_L} {st : List Value} {w : ab_W} {a : Nat} (h : ab_isF 1 0 (w.2 a) = true) : ab_Run ab_mt 48 21 ls (.ref a :: st) w = ab_Run ab_mt 48 24 ls (ab_fv 0 (w.2 a) :: st) w := E_get rfl h
theorem e_48_24 {ls : ab_L} {st : List Value} {w : ab_W} {a : Nat} (h : ab_isF 2 0 (w.2 a) = true) : ab_Run ab_mt 48 24 ls (.ref a :: st) w = ab_Run ab_mt 48 27 ls (ab_fv 0 (w.2 a) :: st) w := E_get rfl h
theorem e_48_27 {ls : ab_L} {st : List Value} {w : ab_W} (h : ab_isI (ls 4) = true) : ab_Run ab_mt 48 27 ls st w = ab_Run ab_mt 48 29 ls (ab_gv (ls 4) :: st) w := E_loadi (n := 2) rfl h
theorem e_48_29 {ls : ab_L} {st : List Value} {w : ab_W} : ab_Run ab_mt 48 29 ls st w = ab_Run ab_mt 48 30 ls (.int (nI 2) :: st) w := E_push (n := 1) rfl
theorem e_48_30 {ls : ab_L} {st : List Value} {w : ab_W} {v0 v1 v2 : Value} (h1 : ab_recv ab_mt 53 [v0, v1, v2] w.2 = true) (h8 : ab_w8 st = true) : ab_Run ab_mt 48 30 ls (v2 :: v1 :: v0 :: st) w = ab_aft 53 48 30 ls st (ab_Cl 53 [v0, v1, v2] w) := E_call3 rfl h1 h8
theorem e_48_33 {ls : ab_L} {st : List Value} {w : ab_W} {x : Int32} : ab_Run ab_mt 48 33 ls (.int x :: st) w = if x ≤ 0 then ab_Run ab_mt 48 40 ls st w else ab_Run ab_mt 48 36 ls st w := E_if_le rfl
theorem e_48_36 {ls : ab_L} {st : List Value} {w : ab_W} : ab_Run ab_mt 48 36 ls st w = ab_Run ab_mt 48 37 ls (.int (nI 1) :: st) w := E_push (n := 1) rfl
theorem e_48_37 {ls : ab_L} {st : List Value} {w : ab_W} : ab_Run ab_mt 48 37 ls st w = ab_Run ab_mt 48 41 ls st w := E_goto rfl
theorem e_48_40 {ls : ab_L} {st : List Value} {w : ab_W} : ab_Run ab_mt 48 40 ls st w = ab_Run ab_mt 48 41 ls (.int (nI 0) :: st) w := E_push (n := 1) rfl
theorem e_48_41 {ls : ab_L} {st : List Value} {w : ab_W} {x : Int32} : ab_Run ab_mt 48 41 ls (.int x :: st) w = ab_Run ab_mt 48 43 (ab_l1 ls 5 (.int x)) st w := E_stori (n := 2) rfl
theorem e_48_43 {ls : ab_L} {st : List Value} {w : ab_W} (h : ab_isI (ls 5) = true) : ab_Run ab_mt 48 43 ls st w = ab_Run ab_mt 48 45 ls (ab_gv (ls 5) :: st) w := E_loadi (n := 2) rfl h
theorem e_48_45 {ls : ab_L} {st : List Value} {w : ab_W} (h : ab_isI (ls 1) = true) : ab_Run ab_mt 48 45 ls st w = ab_Run ab_mt 48 46 ls (ab_gv (ls 1) :: st) w := E_loadi (n := 1) rfl h
theorem e_48_46 {ls : ab_L} {st : List Value} {w : ab_W} {x y : Int32} : ab_Run ab_mt 48 46 ls (.int y :: .int x :: st) w = if x = y then ab_Run ab_mt 48 49 ls st w else ab_Run ab_mt 48 58 ls st w := E_ic_ne rfl
theorem e_48_49 {ls : ab_L} {st : List Value} {w : ab_W} (h : ab_isL (ls 2) = true) (h2 : (ls 3).isNone = true) : ab_Run ab_mt 48 49 ls st w = ab_Run ab_mt 48 50 ls (ab_gv (ls 2) :: st) w := E_loadl (n := 1) rfl h h2
theorem e_48_50 {ls : ab_L} {st : List Value} {w : ab_W} (h : ab_isR (ls 0) = true) : ab_Run ab_mt 48 50 ls st w = ab_Run ab_mt 48 51 ls (ab_gv (ls 0) :: st) w := E_loadr (n := 1) rfl h
theorem e_48_51 {ls : ab_L} {st : List Value} {w : ab_W} (h : ab_isI (ls 4) = true) : ab_Run ab_mt 48 51 ls st w = ab_Run ab_mt 48 53 ls (ab_gv (ls 4) :: st) w := E_loadi (n := 2) rfl h
theorem e_48_53 {ls : ab_L} {st : List Value} {w : ab_W} {v0 v1 : Value} (h1 : ab_recv ab_mt 49 [v0, v1] w.2 = true) (h8 : ab_w8 st = true) : ab_Run ab_mt 48 53 ls (v1 :: v0 :: st) w = ab_aft 49 48 53 ls st (ab_Cl 49 [v0, v1] w) := E_call2 rfl h1 h8
theorem e_48_56 {ls : ab_L} {st : List Value} {w : ab_W} {x y : Int64} : ab_Run ab_mt 48 56 ls (.long y :: .long x :: st) w = ab_Run ab_mt 48 57 ls (.long (x + y) :: st) w := E_lb (f := fun x y => x + y) rfl
theorem e_48_57 {ls : ab_L} {st : List Value} {w : ab_W} {x : Int64} : ab_Run ab_mt 48 57 ls (.long x :: st) w = ab_Run ab_mt 48 58 (ab_l2 ls 2 (.long x)) st w := E_storl (n := 1) rfl
theorem e_48_58 {ls : ab_L} {st : List Value} {w : ab_W} (h : ab_isI (ls 4) = true) : ab_Run ab_mt 48 58 ls st w = ab_Run ab_mt 48 61 (ab_l1 ls 4 (.int (ab_gi (ls 4) + (nI 1)))) st w := E_iinc rfl h
theorem e_48_61 {ls : ab_L} {st : List Value} {w : ab_W} : ab_Run ab_mt 48 61 ls st w = ab_Run ab_mt 48 5 ls st w := E_goto rfl
theorem e_48_64 {ls : ab_L} {st : List Value} {w : ab_W} (h : ab_isL (ls 2) = true) (h2 : (ls 3).isNone = true) : ab_Run ab_mt 48 64 ls st w = ab_Run ab_mt 48 65 ls (ab_gv (ls 2) :: st) w := E_loadl (n := 1) rfl h h2
theorem e_48_65 {ls : ab_L} {w : ab_W} {x : Int64} : ab_Run ab_mt 48 65 ls [.long x] w = some (.inl (some (.long x)), w) := E_retl rfl
theorem rv_48 {σ : ab_S} {t : Nat} {x0 : Int32} : ab_recv ab_mt 48 [.ref t, .int x0] σ = ab_isO 1 (σ t) := rfl
theorem e_49_0 {ls : ab_L} {st : List Value} {w : ab_W} (h : ab_isR (ls 0) = true) : ab_Run ab_mt 49 0 ls st w = ab_Run ab_mt 49 1 ls (ab_gv (ls 0) :: st) w := E_loadr (n := 1) rfl h
theorem e_49_1 {ls : ab_L} {st : List Value} {w : ab_W} (h : ab_isI (ls 1) = true) : ab_Run ab_mt 49 1 ls st w = ab_Run ab_mt 49 2 ls (ab_gv (ls 1) :: st) w := E_loadi (n := 1) rfl h
theorem e_49_2 {ls : ab_L} {st : List Value} {w : ab_W} {v0 v1 : Value} (h1 : ab_recv ab_mt 33 [v0, v1] w.2 = true) (h8 : ab_w8 st = true) : ab_Run ab_mt 49 2 ls (v1 :: v0 :: st) w = ab_aft 33 49 2 ls st (ab_Cl 33 [v0, v1] w) := E_call2 rfl h1 h8
theorem e_49_5 {ls : ab_L} {st : List Value} {w : ab_W} {x : Int32} : ab_Run ab_mt 49 5 ls (.int x :: st) w = ab_Run ab_mt 49 6 (ab_l1 ls 2 (.int x)) st w := E_stori (n := 1) rfl
theorem e_49_6 {ls : ab_L} {st : List Value} {w : ab_W} (h : ab_isI (ls 2) = true) : ab_Run ab_mt 49 6 ls st w = ab_Run ab_mt 49 7 ls (ab_gv (ls 2) :: st) w := E_loadi (n := 1) rfl h
theorem e_49_7 {ls : ab_L} {st : List Value} {w : ab_W} (h : ab_isR (ls 0) = true) : ab_Run ab_mt 49 7 ls st w = ab_Run ab_mt 49 8 ls (ab_gv (ls 0) :: st) w := E_loadr (n := 1) rfl h
theorem e_49_8 {ls : ab_L} {st : List Value} {w : ab_W} {a : Nat} (h : ab_isF 1 0 (w.2 a) = true) : ab_Run ab_mt 49 8 ls (.ref a :: st) w = ab_Run ab_mt 49 11 ls (ab_fv 0 (w.2 a) :: st) w := E_get rfl h
theorem e_49_11 {ls : ab_L} {st : List Value} {w : ab_W} {a : Nat} (h : ab_isF 2 0 (w.2 a) = true) : ab_Run ab_mt 49 11 ls (.ref a :: st) w = ab_Run ab_mt 49 14 ls (ab_fv 0 (w.2 a) :: st) w := E_get rfl h
theorem e_49_14 {ls : ab_L} {st : List Value} {w : ab_W} (h : ab_isI (ls 1) = true) : ab_Run ab_mt 49 14 ls st w = ab_Run ab_mt 49 15 ls (ab_gv (ls 1) :: st) w := E_loadi (n := 1) rfl h
theorem e_49_15 {ls : ab_L} {st : List Value} {w : ab_W} : ab_Run ab_mt 49 15 ls st w = ab_Run ab_mt 49 16 ls (.int (nI 0) :: st) w := E_push (n := 1) rfl
theorem e_49_16 {ls : ab_L} {st : List Value} {w : ab_W} {v0 v1 v2 : Value} (h1 : ab_recv ab_mt 53 [v0, v1, v2] w.2 = true) (h8 : ab_w8 st = true) : ab_Run ab_mt 49 16 ls (v2 :: v1 :: v0 :: st) w = ab_aft 53 49 16 ls st (ab_Cl 53 [v0, v1, v2] w) := E_call3 rfl h1 h8
theorem e_49_19 {ls : ab_L} {st : List Value} {w : ab_W} {x y : Int32} : ab_Run ab_mt 49 19 ls (.int y :: .int x :: st) w = ab_Run ab_mt 49 20 ls (.int (x + y) :: st) w := E_ib (f := fun x y => x + y) rfl
theorem e_49_20 {ls : ab_L} {st : List Value} {w : ab_W} : ab_Run ab_mt 49 20 ls st w = ab_Run ab_mt 49 21 ls (.int (nI 1) :: st) w := E_push (n := 1) rfl
theorem e_49_21 {ls : ab_L} {st : List Value} {w : ab_W} {x y : Int32} : ab_Run ab_mt 49 21 ls (.int y :: .int x :: st) w = ab_Run ab_mt 49 22 ls (.int (x - y) :: st) w := E_ib (f := fun x y => x - y) rfl
theorem e_49_22 {ls : ab_L} {st : List Value} {w : ab_W} {x : Int32} : ab_Run ab_mt 49 22 ls (.int x :: st) w = ab_Run ab_mt 49 23 (ab_l1 ls 3 (.int x)) st w := E_stori (n := 1) rfl
theorem e_49_23 {ls : ab_L} {st : List Value} {w : ab_W} (h : ab_isR (ls 0) = true) : ab_Run ab_mt 49 23 ls st w = ab_Run ab_mt 49 24 ls (ab_gv (ls 0) :: st) w := E_loadr (n := 1) rfl h
theorem e_49_24 {ls : ab_L} {st : List Value} {w : ab_W} (h : ab_isI (ls 3) = true) : ab_Run ab_mt 49 24 ls st w = ab_Run ab_mt 49 25 ls (ab_gv (ls 3) :: st) w := E_loadi (n := 1) rfl h
theorem e_49_25 {ls : ab_L} {st : List Value} {w : ab_W} {v0 v1 : Value} (h1 : ab_recv ab_mt 38 [v0, v1] w.2 = true) (h8 : ab_w8 st = true) : ab_Run ab_mt 49 25 ls (v1 :: v0 :: st) w = ab_aft 38 49 25 ls st (ab_Cl 38 [v0, v1] w) := E_call2 rfl h1 h8
theorem e_49_28 {ls : ab_L} {st : List Value} {w : ab_W} (h : ab_isR (ls 0) = true) : ab_Run ab_mt 49 28 ls st w = ab_Run ab_mt 49 29 ls (ab_gv (ls 0) :: st) w := E_loadr (n := 1) rfl h
theorem e_49_29 {ls : ab_L} {st : List Value} {w : ab_W} (h : ab_isI (ls 3) = true) : ab_Run ab_mt 49 29 ls st w = ab_Run ab_mt 49 30 ls (ab_gv (ls 3) :: st) w := E_loadi (n := 1) rfl h
theorem e_49_30 {ls : ab_L} {st : List Value} {w : ab_W} {v0 v1 : Value} (h1 : ab_recv ab_mt 39 [v0, v1] w.2 = true) (h8 : ab_w8 st = true) : ab_Run ab_mt 49 30 ls (v1 :: v0 :: st) w = ab_aft 39 49 30 ls st (ab_Cl 39 [v0, v1] w) := E_call2 rfl h1 h8
theorem e_49_33 {ls : ab_L} {st : List Value} {w : ab_W} {x y : Int64} : ab_Run ab_mt 49 33 ls (.long y :: .long x :: st) w = ab_Run ab_mt 49 34 ls (.long (x + y) :: st) w := E_lb (f := fun x y => x + y) rfl
theorem e_49_34 {ls : ab_L} {st : List Value} {w : ab_W} (h : ab_isR (ls 0) = true) : ab_Run ab_mt 49 34 ls st w = ab_Run ab_mt 49 35 ls (ab_gv (ls 0) :: st) w := E_loadr (n := 1) rfl h
theorem e_49_35 {ls : ab_L} {st : List Value} {w : ab_W} (h : ab_isI (ls 2) = true) : ab_Run ab_mt 49 35 ls st w = ab_Run ab_mt 49 36 ls (ab_gv (ls 2) :: st) w := E_loadi (n := 1) rfl h
theorem e_49_36 {ls : ab_L} {st : List Value} {w : ab_W} {v0 v1 : Value} (h1 : ab_recv ab_mt 38 [v0, v1] w.2 = true) (h8 : ab_w8 st = true) : ab_Run ab_mt 49 36 ls (v1 :: v0 :: st) w = ab_aft 38 49 36 ls st (ab_Cl 38 [v0, v1] w) := E_call2 rfl h1 h8
theorem e_49_39 {ls : ab_L} {st : List Value} {w : ab_W} {x y : Int64} : ab_Run ab_mt 49 39 ls (.long y :: .long x :: st) w = ab_Run ab_mt 49 40 ls (.long (x - y) :: st) w := E_lb (f := fun x y => x - y) rfl
theorem e_49_40 {ls : ab_L} {w : ab_W} {x : Int64} : ab_Run ab_mt 49 40 ls [.long x] w = some (.inl (some (.long x)), w) := E_retl rfl
theorem rv_49 {σ : ab_S} {t : Nat} {x0 : Int32} : ab_recv ab_mt 49 [.ref t, .int x0] σ = ab_isO 1 (σ t) := rfl
theorem e_50_0 {ls : ab_L} {st : List Value} {w : ab_W} (h : ab_isR (ls 0) = true) : ab_Run ab_mt 50 0 ls st w = ab_Run ab_mt 50 1 ls (ab_gv (ls 0) :: st) w := E_loadr (n := 1) rfl h
theorem e_50_1 {ls : ab_L} {st : List Value} {w : ab_W} {a : Nat} (h8 : ab_w8 st = true) : ab_Run ab_mt 50 1 ls (.ref a :: st) w = ab_Run ab_mt 50 4 ls st w := E_oini rfl h8
theorem e_50_4 {ls : ab_L} {st : List Value} {w : ab_W} (h : ab_isR (ls 0) = true) : ab_Run ab_mt 50 4 ls st w = ab_Run ab_mt 50 5 ls (ab_gv (ls 0) :: st) w := E_loadr (n := 1) rfl h
theorem e_50_5 {ls : ab_L} {st : List Value} {w : ab_W} (h : w.1.1 = true) : ab_Run ab_mt 50 5 ls st w = ab_Run ab_mt 50 8 ls (.ref w.1.2.1 :: st) (ab_mk w.1 w.2 (ab_ob 3 [.int 0, .int 0, .null, .int 0]) 4) := E_new (n := 3) (x := ab_ob 3 [.int 0, .int 0, .null, .int 0]) (sz := 4) (rest := st) rfl rfl h
theorem e_50_8 {ls : ab_L} {st : List Value} {w : ab_W} {x : Nat} : ab_Run ab_mt 50 8 ls (.ref x :: st) w = ab_Run ab_mt 50 9 ls (.ref x :: .ref x :: st) w := E_dup_r rfl
theorem e_50_9 {ls : ab_L} {st : List Value} {w : ab_W} : ab_Run ab_mt 50 9 ls st w = ab_Run ab_mt 50 11 ls (.int (nI 24) :: st) w := E_push (n := 2) rfl
theorem e_50_11 {ls : ab_L} {st : List Value} {w : ab_W} : ab_Run ab_mt 50 11 ls st w = ab_Run ab_mt 50 12 ls (.int (nI 5) :: st) w := E_push (n := 1) rfl
theorem e_50_12 {ls : ab_L} {st : List Value} {w : ab_W} {v0 v1 v2 : Value} (h1 : ab_recv ab_mt 52 [v0, v1, v2] w.2 = true) (h8 : ab_w8 st = true) : ab_Run ab_mt 50 12 ls (v2 :: v1 :: v0 :: st) w = ab_aft 52 50 12 ls st (ab_Cl 52 [v0, v1, v2] w) := E_call3 rfl h1 h8
theorem e_50_15 {ls : ab_L} {st : List Value} {w : ab_W} {a : Nat} {x : Nat} (h : ab_isF 2 0 (w.2 a) = true) : ab_Run ab_mt 50 15 ls (.ref x :: .ref a :: st) w = ab_Run ab_mt 50 18 ls st (w.1, ab_up w.2 a (ab_sf 0 (.ref x) (w.2 a))) := E_put rfl h rfl
theorem e_50_18 {ls : ab_L} {st : List Value} {w : ab_W} (h : ab_isR (ls 0) = true) : ab_Run ab_mt 50 18 ls st w = ab_Run ab_mt 50 19 ls (ab_gv (ls 0) :: st) w := E_loadr (n := 1) rfl h
theorem e_50_19 {ls : ab_L} {st : List Value} {w : ab_W} (h : w.1.1 = true) : ab_Run ab_mt 50 19 ls st w = ab_Run ab_mt 50 22 ls (.ref w.1.2.1 :: st) (ab_mk w.1 w.2 (ab_ob 3 [.int 0, .int 0, .null, .int 0]) 4) := E_new (n := 3) (x := ab_ob 3 [.int 0, .int 0, .null, .int 0]) (sz := 4) (rest := st) rfl rfl h
theorem e_50_22 {ls : ab_L} {st : List Value} {w : ab_W} {x : Nat} : ab_Run ab_mt 50 22 ls (.ref x :: st) w = ab_Run ab_mt 50 23 ls (.ref x :: .ref x :: st) w := E_dup_r rfl
theorem e_50_23 {ls : ab_L} {st : List Value} {w : ab_W} : ab_Run ab_mt 50 23 ls st w = ab_Run ab_mt 50 25 ls (.int (nI 11) :: st) w := E_push (n := 2) rfl
theorem e_50_25 {ls : ab_L} {st : List Value} {w : ab_W} : ab_Run ab_mt 50 25 ls st w = ab_Run ab_mt 50 26 ls (.int (nI 3) :: st) w := E_push (n := 1) rfl
theorem e_50_26 {ls : ab_L} {st : List Value} {w : ab_W} {v0 v1 v2 : Value} (h1 : ab_recv ab_mt 52 [v0, v1, v2] w.2 = true) (h8 : ab_w8 st = true) : ab_Run ab_mt 50 26 ls (v2 :: v1 :: v0 :: st) w = ab_aft 52 50 26 ls st (ab_Cl 52 [v0, v1, v2] w) := E_call3 rfl h1 h8
theorem e_50_29 {ls : ab_L} {st : List Value} {w : ab_W} {a : Nat} {x : Nat} (h : ab_isF 2 1 (w.2 a) = true) : ab_Run ab_mt 50 29 ls (.ref x :: .ref a :: st) w = ab_Run ab_mt 50 32 ls st (w.1, ab_up w.2 a (ab_sf 1 (.ref x) (w.2 a))) := E_put rfl h rfl
theorem e_50_32 {ls : ab_L} {st : List Value} {w : ab_W} (h : ab_isR (ls 0) = true) : ab_Run ab_mt 50 32 ls st w = ab_Run ab_mt 50 33 ls (ab_gv (ls 0) :: st) w := E_loadr (n := 1) rfl h
theorem e_50_33 {ls : ab_L} {st : List Value} {w : ab_W} (h : w.1.1 = true) : ab_Run ab_mt 50 33 ls st w = ab_Run ab_mt 50 36 ls (.ref w.1.2.1 :: st) (ab_mk w.1 w.2 (ab_ob 3 [.int 0, .int 0, .null, .int 0]) 4) := E_new (n := 3) (x := ab_ob 3 [.int 0, .int 0, .null, .int 0]) (sz := 4) (rest := st) rfl rfl h
theorem e_50_36 {ls : ab_L} {st : List Value} {w : ab_W} {x : Nat} : ab_Run ab_mt 50 36 ls (.ref x :: st) w = ab_Run ab_mt 50 37 ls (.ref x :: .ref x :: st) w := E_dup_r rfl
theorem e_50_37 {ls : ab_L} {st : List Value} {w : ab_W} : ab_Run ab_mt 50 37 ls st w = ab_Run ab_mt 50 39 ls (.int (nI 12) :: st) w := E_push (n := 2) rfl
theorem e_50_39 {ls : ab_L} {st : List Value} {w : ab_W} : ab_Run ab_mt 50 39 ls st w = ab_Run ab_mt 50 40 ls (.int (nI 3) :: st) w := E_push (n := 1) rfl
theorem e_50_40 {ls : ab_L} {st : List Value} {w : ab_W} {v0 v1 v2 : Value} (h1 : ab_recv ab_mt 52 [v0, v1, v2] w.2 = true) (h8 : ab_w8 st = true) : ab_Run ab_mt 50 40 ls (v2 :: v1 :: v0 :: st) w = ab_aft 52 50 40 ls st (ab_Cl 52 [v0, v1, v2] w) := E_call3 rfl h1 h8
theorem e_50_43 {ls : ab_L} {st : List Value} {w : ab_W} {a : Nat} {x : Nat} (h : ab_isF 2 2 (w.2 a) = true) : ab_Run ab_mt 50 43 ls (.ref x :: .ref a :: st) w = ab_Run ab_mt 50 46 ls st (w.1, ab_up w.2 a (ab_sf 2 (.ref x) (w.2 a))) := E_put rfl h rfl
theorem e_50_46 {ls : ab_L} {w : ab_W} : ab_Run ab_mt 50 46 ls [] w = some (.inl none, w) := E_ret0 rfl
theorem rv_50 {σ : ab_S} {t : Nat} : ab_recv ab_mt 50 [.ref t] σ = ab_isO 2 (σ t) := rfl
theorem e_51_0 {ls : ab_L} {st : List Value} {w : ab_W} (h : ab_isR (ls 0) = true) : ab_Run ab_mt 51 0 ls st w = ab_Run ab_mt 51 1 ls (ab_gv (ls 0) :: st) w := E_loadr (n := 1) rfl h
theorem e_51_1 {ls : ab_L} {st : List Value} {w : ab_W} {a : Nat} (h : ab_isF 2 0 (w.2 a) = true) : ab_Run ab_mt 51 1 ls (.ref a :: st) w = ab_Run ab_mt 51 4 ls (ab_fv 0 (w.2 a) :: st) w := E_get rfl h
theorem e_51_4 {ls : ab_L} {st : List Value} {w : ab_W} (h : ab_isR (ls 1) = true) : ab_Run ab_mt 51 4 ls st w = ab_Run ab_mt 51 5 ls (ab_gv (ls 1) :: st) w := E_loadr (n := 1) rfl h
theorem e_51_5 {ls : ab_L} {st : List Value} {w : ab_W} {a : Nat} (h : ab_isF 2 0 (w.2 a) = true) : ab_Run ab_mt 51 5 ls (.ref a :: st) w = ab_Run ab_mt 51 8 ls (ab_fv 0 (w.2 a) :: st) w := E_get rfl h
theorem e_51_8 {ls : ab_L} {st : List Value} {w : ab_W} {v0 v1 : Value} (h1 : ab_recv ab_mt 57 [v0, v1] w.2 = true) (h8 : ab_w8 st = true) : ab_Run ab_mt 51 8 ls (v1 :: v0 :: st) w = ab_aft 57 51 8 ls st (ab_Cl 57 [v0, v1] w) := E_call2 rfl h1 h8
theorem e_51_11 {ls : ab_L} {st : List Value} {w : ab_W} (h : ab_isR (ls 0) = true) : ab_Run ab_mt 51 11 ls st w = ab_Run ab_mt 51 12 ls (ab_gv (ls 0) :: st) w := E_loadr (n := 1) rfl h
theorem e_51_12 {ls : ab_L} {st : List Value} {w : ab_W} {a : Nat} (h : ab_isF 2 1 (w.2 a) = true) : ab_Run ab_mt 51 12 ls (.ref a :: st) w = ab_Run ab_mt 51 15 ls (ab_fv 1 (w.2 a) :: st) w := E_get rfl h
theorem e_51_15 {ls : ab_L} {st : List Value} {w : ab_W} (h : ab_isR (ls 1) = true) : ab_Run ab_mt 51 15 ls st w = ab_Run ab_mt 51 16 ls (ab_gv (ls 1) :: st) w := E_loadr (n := 1) rfl h
theorem e_51_16 {ls : ab_L} {st : List Value} {w : ab_W} {a : Nat} (h : ab_isF 2 1 (w.2 a) = true) : ab_Run ab_mt 51 16 ls (.ref a :: st) w = ab_Run ab_mt 51 19 ls (ab_fv 1 (w.2 a) :: st) w := E_get rfl h
theorem e_51_19 {ls : ab_L} {st : List Value} {w : ab_W} {v0 v1 : Value} (h1 : ab_recv ab_mt 57 [v0, v1] w.2 = true) (h8 : ab_w8 st = true) : ab_Run ab_mt 51 19 ls (v1 :: v0 :: st) w = ab_aft 57 51 19 ls st (ab_Cl 57 [v0, v1] w) := E_call2 rfl h1 h8
theorem e_51_22 {ls : ab_L} {st : List Value} {w : ab_W} (h : ab_isR (ls 0) = true) : ab_Run ab_mt 51 22 ls st w = ab_Run ab_mt 51 23 ls (ab_gv (ls 0) :: st) w := E_loadr (n := 1) rfl h
theorem e_51_23 {ls : ab_L} {st : List Value} {w : ab_W} {a : Nat} (h : ab_isF 2 2 (w.2 a) = true) : ab_Run ab_mt 51 23 ls (.ref a :: st) w = ab_Run ab_mt 51 26 ls (ab_fv 2 (w.2 a) :: st) w := E_get rfl h
theorem e_51_26 {ls : ab_L} {st : List Value} {w : ab_W} (h : ab_isR (ls 1) = true) : ab_Run ab_mt 51 26 ls st w = ab_Run ab_mt 51 27 ls (ab_gv (ls 1) :: st) w := E_loadr (n := 1) rfl h
theorem e_51_27 {ls : ab_L} {st : List Value} {w : ab_W} {a : Nat} (h : ab_isF 2 2 (w.2 a) = true) : ab_Run ab_mt 51 27 ls (.ref a :: st) w = ab_Run ab_mt 51 30 ls (ab_fv 2 (w.2 a) :: st) w := E_get rfl h
theorem e_51_30 {ls : ab_L} {st : List Value} {w : ab_W} {v0 v1 : Value} (h1 : ab_recv ab_mt 57 [v0, v1] w.2 = true) (h8 : ab_w8 st = true) : ab_Run ab_mt 51 30 ls (v1 :: v0 :: st) w = ab_aft 57 51 30 ls st (ab_Cl 57 [v0, v1] w) := E_call2 rfl h1 h8
theorem e_51_33 {ls : ab_L} {w : ab_W} : ab_Run ab_mt 51 33 ls [] w = some (.inl none, w) := E_ret0 rfl
theorem rv_51 {σ : ab_S} {t : Nat} {x0 : Nat} : ab_recv ab_mt 51 [.ref t, .ref x0] σ = ab_isO 2 (σ t) := rfl
theorem e_52_0 {ls : ab_L} {st : List Value} {w : ab_W} (h : ab_isR (ls 0) = true) : ab_Run ab_mt 52 0 ls st w = ab_Run ab_mt 52 1 ls (ab_gv (ls 0) :: st) w := E_loadr (n := 1) rfl h
theorem e_52_1 {ls : ab_L} {st : List Value} {w : ab_W} {a : Nat} (h8 : ab_w8 st = true) : ab_Run ab_mt 52 1 ls (.ref a :: st) w = ab_Run ab_mt 52 4 ls st w := E_oini rfl h8
theorem e_52_4 {ls : ab_L} {st : List Value} {w : ab_W} (h : ab_isR (ls 0) = true) : ab_Run ab_mt 52 4 ls st w = ab_Run ab_mt 52 5 ls (ab_gv (ls 0) :: st) w := E_loadr (n := 1) rfl h
theorem e_52_5 {ls : ab_L} {st : List Value} {w : ab_W} (h : ab_isI (ls 1) = true) : ab_Run ab_mt 52 5 ls st w = ab_Run ab_mt 52 6 ls (ab_gv (ls 1) :: st) w := E_loadi (n := 1) rfl h
theorem e_52_6 {ls : ab_L} {st : List Value} {w : ab_W} {a : Nat} {x : Int32} (h : ab_isF 3 0 (w.2 a) = true) : ab_Run ab_mt 52 6 ls (.int x :: .ref a :: st) w = ab_Run ab_mt 52 9 ls st (w.1, ab_up w.2 a (ab_sf 0 (.int x) (w.2 a))) := E_put rfl h rfl
theorem e_52_9 {ls : ab_L} {st : List Value} {w : ab_W} (h : ab_isR (ls 0) = true) : ab_Run ab_mt 52 9 ls st w = ab_Run ab_mt 52 10 ls (ab_gv (ls 0) :: st) w := E_loadr (n := 1) rfl h
theorem e_52_10 {ls : ab_L} {st : List Value} {w : ab_W} (h : ab_isI (ls 2) = true) : ab_Run ab_mt 52 10 ls st w = ab_Run ab_mt 52 11 ls (ab_gv (ls 2) :: st) w := E_loadi (n := 1) rfl h
theorem e_52_11 {ls : ab_L} {st : List Value} {w : ab_W} {a : Nat} {x : Int32} (h : ab_isF 3 1 (w.2 a) = true) : ab_Run ab_mt 52 11 ls (.int x :: .ref a :: st) w = ab_Run ab_mt 52 14 ls st (w.1, ab_up w.2 a (ab_sf 1 (.int x) (w.2 a))) := E_put rfl h rfl
theorem e_52_14 {ls : ab_L} {st : List Value} {w : ab_W} (h : ab_isR (ls 0) = true) : ab_Run ab_mt 52 14 ls st w = ab_Run ab_mt 52 15 ls (ab_gv (ls 0) :: st) w := E_loadr (n := 1) rfl h
theorem e_52_15 {ls : ab_L} {st : List Value} {w : ab_W} (h : ab_isI (ls 1) = true) : ab_Run ab_mt 52 15 ls st w = ab_Run ab_mt 52 16 ls (ab_gv (ls 1) :: st) w := E_loadi (n := 1) rfl h
theorem e_52_16 {ls : ab_L} {st : List Value} {w : ab_W} (h : ab_isI (ls 2) = true) : ab_Run ab_mt 52 16 ls st w = ab_Run ab_mt 52 17 ls (ab_gv (ls 2) :: st) w := E_loadi (n := 1) rfl h
theorem e_52_17 {ls : ab_L} {st : List Value} {w : ab_W} {x y : Int32} : ab_Run ab_mt 52 17 ls (.int y :: .int x :: st) w = ab_Run ab_mt 52 18 ls (.int (x * y) :: st) w := E_ib (f := fun x y => x * y) rfl
theorem e_52_18 {ls : ab_L} {st : List Value} {w : ab_W} : ab_Run ab_mt 52 18 ls st w = ab_Run ab_mt 52 19 ls (.int (nI 0) :: st) w := E_push (n := 1) rfl
theorem e_52_19 {ls : ab_L} {st : List Value} {w : ab_W} {x y : Int32} (h8 : ab_w8 st = true) : ab_Run ab_mt 52 19 ls (.int y :: .int x :: st) w = ab_Run ab_mt 52 22 ls (.int (if x < y then y else x) :: st) w := E_maxi rfl h8
theorem e_52_22 {ls : ab_L} {st : List Value} {w : ab_W} {n : Int32} (h : w.1.1 = true) (hn : ¬ (n < 0 ∨ 60000 < n.toNatClampNeg)) : ab_Run ab_mt 52 22 ls (.int n :: st) w = ab_Run ab_mt 52 24 ls (.ref w.1.2.1 :: st) (ab_mk w.1 w.2 (ab_ia n.toNatClampNeg (fun _ => 0)) n.toNatClampNeg) := E_new (n := 2) (x := ab_ia n.toNatClampNeg (fun _ => 0)) (sz := n.toNatClampNeg) (rest := st) rfl (if_neg hn) h
theorem e_52_24 {ls : ab_L} {st : List Value} {w : ab_W} {a : Nat} {x : Nat} (h : ab_isF 3 2 (w.2 a) = true) : ab_Run ab_mt 52 24 ls (.ref x :: .ref a :: st) w = ab_Run ab_mt 52 27 ls st (w.1, ab_up w.2 a (ab_sf 2 (.ref x) (w.2 a))) := E_put rfl h rfl
theorem e_52_27 {ls : ab_L} {w : ab_W} : ab_Run ab_mt 52 27 ls [] w = some (.inl none, w) := E_ret0 rfl
theorem rv_52 {σ : ab_S} {t : Nat} {x0 : Int32} {x1 : Int32} : ab_recv ab_mt 52 [.ref t, .int x0, .int x1] σ = ab_isO 3 (σ t) := rfl
theorem e_53_0 {ls : ab_L} {st : List Value} {w : ab_W} (h : ab_isI (ls 1) = true) : ab_Run ab_mt 53 0 ls st w = ab_Run ab_mt 53 1 ls (ab_gv (ls 1) :: st) w := E_loadi (n := 1) rfl h
theorem e_53_1 {ls : ab_L} {st : List Value} {w : ab_W} {x : Int32} : ab_Run ab_mt 53 1 ls (.int x :: st) w = if x < 0 then ab_Run ab_mt 53 24 ls st w else ab_Run ab_mt 53 4 ls st w := E_if_lt rfl
theorem e_53_4 {ls : ab_L} {st : List Value} {w : ab_W} (h : ab_isI (ls 1) = true) : ab_Run ab_mt 53 4 ls st w = ab_Run ab_mt 53 5 ls (ab_gv (ls 1) :: st) w := E_loadi (n := 1) rfl h
theorem e_53_5 {ls : ab_L} {st : List Value} {w : ab_W} (h : ab_isR (ls 0) = true) : ab_Run ab_mt 53 5 ls st w = ab_Run ab_mt 53 6 ls (ab_gv (ls 0) :: st) w := E_loadr (n := 1) rfl h
theorem e_53_6 {ls : ab_L} {st : List Value} {w : ab_W} {a : Nat} (h : ab_isF 3 3 (w.2 a) = true) : ab_Run ab_mt 53 6 ls (.ref a :: st) w = ab_Run ab_mt 53 9 ls (ab_fv 3 (w.2 a) :: st) w := E_get rfl h
theorem e_53_9 {ls : ab_L} {st : List Value} {w : ab_W} {x y : Int32} : ab_Run ab_mt 53 9 ls (.int y :: .int x :: st) w = if y ≤ x then ab_Run ab_mt 53 24 ls st w else ab_Run ab_mt 53 12 ls st w := E_ic_ge rfl
theorem e_53_12 {ls : ab_L} {st : List Value} {w : ab_W} (h : ab_isI (ls 2) = true) : ab_Run ab_mt 53 12 ls st w = ab_Run ab_mt 53 13 ls (ab_gv (ls 2) :: st) w := E_loadi (n := 1) rfl h
theorem e_53_13 {ls : ab_L} {st : List Value} {w : ab_W} {x : Int32} : ab_Run ab_mt 53 13 ls (.int x :: st) w = if x < 0 then ab_Run ab_mt 53 24 ls st w else ab_Run ab_mt 53 16 ls st w := E_if_lt rfl
theorem e_53_16 {ls : ab_L} {st : List Value} {w : ab_W} (h : ab_isI (ls 2) = true) : ab_Run ab_mt 53 16 ls st w = ab_Run ab_mt 53 17 ls (ab_gv (ls 2) :: st) w := E_loadi (n := 1) rfl h
theorem e_53_17 {ls : ab_L} {st : List Value} {w : ab_W} (h : ab_isR (ls 0) = true) : ab_Run ab_mt 53 17 ls st w = ab_Run ab_mt 53 18 ls (ab_gv (ls 0) :: st) w := E_loadr (n := 1) rfl h
theorem e_53_18 {ls : ab_L} {st : List Value} {w : ab_W} {a : Nat} (h : ab_isF 3 1 (w.2 a) = true) : ab_Run ab_mt 53 18 ls (.ref a :: st) w = ab_Run ab_mt 53 21 ls (ab_fv 1 (w.2 a) :: st) w := E_get rfl h
theorem e_53_21 {ls : ab_L} {st : List Value} {w : ab_W} {x y : Int32} : ab_Run ab_mt 53 21 ls (.int y :: .int x :: st) w = if x < y then ab_Run ab_mt 53 26 ls st w else ab_Run ab_mt 53 24 ls st w := E_ic_lt rfl
theorem e_53_24 {ls : ab_L} {st : List Value} {w : ab_W} : ab_Run ab_mt 53 24 ls st w = ab_Run ab_mt 53 25 ls (.int (nI 0) :: st) w := E_push (n := 1) rfl
theorem e_53_25 {ls : ab_L} {w : ab_W} {x : Int32} : ab_Run ab_mt 53 25 ls [.int x] w = some (.inl (some (.int x)), w) := E_reti rfl
theorem e_53_26 {ls : ab_L} {st : List Value} {w : ab_W} (h : ab_isR (ls 0) = true) : ab_Run ab_mt 53 26 ls st w = ab_Run ab_mt 53 27 ls (ab_gv (ls 0) :: st) w := E_loadr (n := 1) rfl h
theorem e_53_27 {ls : ab_L} {st : List Value} {w : ab_W} {a : Nat} (h : ab_isF 3 2 (w.2 a) = true) : ab_Run ab_mt 53 27 ls (.ref a :: st) w = ab_Run ab_mt 53 30 ls (ab_fv 2 (w.2 a) :: st) w := E_get rfl h
theorem e_53_30 {ls : ab_L} {st : List Value} {w : ab_W} (h : ab_isI (ls 1) = true) : ab_Run ab_mt 53 30 ls st w = ab_Run ab_mt 53 31 ls (ab_gv (ls 1) :: st) w := E_loadi (n := 1) rfl h
theorem e_53_31 {ls : ab_L} {st : List Value} {w : ab_W} (h : ab_isR (ls 0) = true) : ab_Run ab_mt 53 31 ls st w = ab_Run ab_mt 53 32 ls (ab_gv (ls 0) :: st) w := E_loadr (n := 1) rfl h
theorem e_53_32 {ls : ab_L} {st : List Value} {w : ab_W} {a : Nat} (h : ab_isF 3 1 (w.2 a) = true) : ab_Run ab_mt 53 32 ls (.ref a :: st) w = ab_Run ab_mt 53 35 ls (ab_fv 1 (w.2 a) :: st) w := E_get rfl h
theorem e_53_35 {ls : ab_L} {st : List Value} {w : ab_W} {x y : Int32} : ab_Run ab_mt 53 35 ls (.int y :: .int x :: st) w = ab_Run ab_mt 53 36 ls (.int (x * y) :: st) w := E_ib (f := fun x y => x * y) rfl
theorem e_53_36 {ls : ab_L} {st : List Value} {w : ab_W} (h : ab_isI (ls 2) = true) : ab_Run ab_mt 53 36 ls st w = ab_Run ab_mt 53 37 ls (ab_gv (ls 2) :: st) w := E_loadi (n := 1) rfl h
theorem e_53_37 {ls : ab_L} {st : List Value} {w : ab_W} {x y : Int32} : ab_Run ab_mt 53 37 ls (.int y :: .int x :: st) w = ab_Run ab_mt 53 38 ls (.int (x + y) :: st) w := E_ib (f := fun x y => x + y) rfl
theorem e_53_38 {ls : ab_L} {st : List Value} {w : ab_W} {a : Nat} {i : Int32} (h : ab_inI i (w.2 a) = true) : ab_Run ab_mt 53 38 ls (.int i :: .ref a :: st) w = ab_Run ab_mt 53 39 ls (.int (ab_aI i.toNatClampNeg (w.2 a)) :: st) w := E_iald rfl h
theorem e_53_39 {ls : ab_L} {w : ab_W} {x : Int32} : ab_Run ab_mt 53 39 ls [.int x] w = some (.inl (some (.int x)), w) := E_reti rfl
theorem rv_53 {σ : ab_S} {t : Nat} {x0 : Int32} {x1 : Int32} : ab_recv ab_mt 53 [.ref t, .int x0, .int x1] σ = ab_isO 3 (σ t) := rfl
theorem e_54_0 {ls : ab_L} {st : List Value} {w : ab_W} (h : ab_isI (ls 1) = true) : ab_Run ab_mt 54 0 ls st w = ab_Run ab_mt 54 1 ls (ab_gv (ls 1) :: st) w := E_loadi (n := 1) rfl h
theorem e_54_1 {ls : ab_L} {st : List Value} {w : ab_W} {x : Int32} : ab_Run ab_mt 54 1 ls (.int x :: st) w = if x < 0 then ab_Run ab_mt 54 38 ls st w else ab_Run ab_mt 54 4 ls st w := E_if_lt rfl
theorem e_54_4 {ls : ab_L} {st : List Value} {w : ab_W} (h : ab_isI (ls 1) = true) : ab_Run ab_mt 54 4 ls st w = ab_Run ab_mt 54 5 ls (ab_gv (ls 1) :: st) w := E_loadi (n := 1) rfl h
theorem e_54_5 {ls : ab_L} {st : List Value} {w : ab_W} (h : ab_isR (ls 0) = true) : ab_Run ab_mt 54 5 ls st w = ab_Run ab_mt 54 6 ls (ab_gv (ls 0) :: st) w := E_loadr (n := 1) rfl h
theorem e_54_6 {ls : ab_L} {st : List Value} {w : ab_W} {a : Nat} (h : ab_isF 3 3 (w.2 a) = true) : ab_Run ab_mt 54 6 ls (.ref a :: st) w = ab_Run ab_mt 54 9 ls (ab_fv 3 (w.2 a) :: st) w := E_get rfl h
theorem e_54_9 {ls : ab_L} {st : List Value} {w : ab_W} {x y : Int32} : ab_Run ab_mt 54 9 ls (.int y :: .int x :: st) w = if y ≤ x then ab_Run ab_mt 54 38 ls st w else ab_Run ab_mt 54 12 ls st w := E_ic_ge rfl
theorem e_54_12 {ls : ab_L} {st : List Value} {w : ab_W} (h : ab_isI (ls 2) = true) : ab_Run ab_mt 54 12 ls st w = ab_Run ab_mt 54 13 ls (ab_gv (ls 2) :: st) w := E_loadi (n := 1) rfl h
theorem e_54_13 {ls : ab_L} {st : List Value} {w : ab_W} {x : Int32} : ab_Run ab_mt 54 13 ls (.int x :: st) w = if x < 0 then ab_Run ab_mt 54 38 ls st w else ab_Run ab_mt 54 16 ls st w := E_if_lt rfl
theorem e_54_16 {ls : ab_L} {st : List Value} {w : ab_W} (h : ab_isI (ls 2) = true) : ab_Run ab_mt 54 16 ls st w = ab_Run ab_mt 54 17 ls (ab_gv (ls 2) :: st) w := E_loadi (n := 1) rfl h
theorem e_54_17 {ls : ab_L} {st : List Value} {w : ab_W} (h : ab_isR (ls 0) = true) : ab_Run ab_mt 54 17 ls st w = ab_Run ab_mt 54 18 ls (ab_gv (ls 0) :: st) w := E_loadr (n := 1) rfl h
theorem e_54_18 {ls : ab_L} {st : List Value} {w : ab_W} {a : Nat} (h : ab_isF 3 1 (w.2 a) = true) : ab_Run ab_mt 54 18 ls (.ref a :: st) w = ab_Run ab_mt 54 21 ls (ab_fv 1 (w.2 a) :: st) w := E_get rfl h
theorem e_54_21 {ls : ab_L} {st : List Value} {w : ab_W} {x y : Int32} : ab_Run ab_mt 54 21 ls (.int y :: .int x :: st) w = if y ≤ x then ab_Run ab_mt 54 38 ls st w else ab_Run ab_mt 54 24 ls st w := E_ic_ge rfl
theorem e_54_24 {ls : ab_L} {st : List Value} {w : ab_W} (h : ab_isR (ls 0) = true) : ab_Run ab_mt 54 24 ls st w = ab_Run ab_mt 54 25 ls (ab_gv (ls 0) :: st) w := E_loadr (n := 1) rfl h
theorem e_54_25 {ls : ab_L} {st : List Value} {w : ab_W} {a : Nat} (h : ab_isF 3 2 (w.2 a) = true) : ab_Run ab_mt 54 25 ls (.ref a :: st) w = ab_Run ab_mt 54 28 ls (ab_fv 2 (w.2 a) :: st) w := E_get rfl h
theorem e_54_28 {ls : ab_L} {st : List Value} {w : ab_W} (h : ab_isI (ls 1) = true) : ab_Run ab_mt 54 28 ls st w = ab_Run ab_mt 54 29 ls (ab_gv (ls 1) :: st) w := E_loadi (n := 1) rfl h
theorem e_54_29 {ls : ab_L} {st : List Value} {w : ab_W} (h : ab_isR (ls 0) = true) : ab_Run ab_mt 54 29 ls st w = ab_Run ab_mt 54 30 ls (ab_gv (ls 0) :: st) w := E_loadr (n := 1) rfl h
theorem e_54_30 {ls : ab_L} {st : List Value} {w : ab_W} {a : Nat} (h : ab_isF 3 1 (w.2 a) = true) : ab_Run ab_mt 54 30 ls (.ref a :: st) w = ab_Run ab_mt 54 33 ls (ab_fv 1 (w.2 a) :: st) w := E_get rfl h
theorem e_54_33 {ls : ab_L} {st : List Value} {w : ab_W} {x y : Int32} : ab_Run ab_mt 54 33 ls (.int y :: .int x :: st) w = ab_Run ab_mt 54 34 ls (.int (x * y) :: st) w := E_ib (f := fun x y => x * y) rfl
theorem e_54_34 {ls : ab_L} {st : List Value} {w : ab_W} (h : ab_isI (ls 2) = true) : ab_Run ab_mt 54 34 ls st w = ab_Run ab_mt 54 35 ls (ab_gv (ls 2) :: st) w := E_loadi (n := 1) rfl h
theorem e_54_35 {ls : ab_L} {st : List Value} {w : ab_W} {x y : Int32} : ab_Run ab_mt 54 35 ls (.int y :: .int x :: st) w = ab_Run ab_mt 54 36 ls (.int (x + y) :: st) w := E_ib (f := fun x y => x + y) rfl
theorem e_54_36 {ls : ab_L} {st : List Value} {w : ab_W} (h : ab_isI (ls 3) = true) : ab_Run ab_mt 54 36 ls st w = ab_Run ab_mt 54 37 ls (ab_gv (ls 3) :: st) w := E_loadi (n := 1) rfl h
theorem e_54_37 {ls : ab_L} {st : List Value} {w : ab_W} {a : Nat} {i x : Int32} (h : ab_inW i (w.2 a) = true) : ab_Run ab_mt 54 37 ls (.int x :: .int i :: .ref a :: st) w = ab_Run ab_mt 54 38 ls st (w.1, ab_up w.2 a (ab_sI i.toNatClampNeg x (w.2 a))) := E_iast rfl h
theorem e_54_38 {ls : ab_L} {w : ab_W} : ab_Run ab_mt 54 38 ls [] w = some (.inl none, w) := E_ret0 rfl
theorem rv_54 {σ : ab_S} {t : Nat} {x0 : Int32} {x1 : Int32} {x2 : Int32} : ab_recv ab_mt 54 [.ref t, .int x0, .int x1, .int x2] σ = ab_isO 3 (σ t) := rfl
theorem e_55_0 {ls : ab_L} {st : List Value} {w : ab_W} (h : ab_isI (ls 1) = true) : ab_Run ab_mt 55 0 ls st w = ab_Run ab_mt 55 1 ls (ab_gv (ls 1) :: st) w := E_loadi (n := 1) rfl h
theorem e_55_1 {ls : ab_L} {st : List Value} {w : ab_W} {x : Int32} : ab_Run ab_mt 55 1 ls (.int x :: st) w = if x < 0 then ab_Run ab_mt 55 23 ls st w else ab_Run ab_mt 55 4 ls st w := E_if_lt rfl
theorem e_55_4 {ls : ab_L} {st : List Value} {w : ab_W} (h : ab_isI (ls 1) = true) : ab_Run ab_mt 55 4 ls st w = ab_Run ab_mt 55 5 ls (ab_gv (ls 1) :: st) w := E_loadi (n := 1) rfl h
theorem e_55_5 {ls : ab_L} {st : List Value} {w : ab_W} (h : ab_isR (ls 0) = true) : ab_Run ab_mt 55 5 ls st w = ab_Run ab_mt 55 6 ls (ab_gv (ls 0) :: st) w := E_loadr (n := 1) rfl h
theorem e_55_6 {ls : ab_L} {st : List Value} {w : ab_W} {a : Nat} (h : ab_isF 3 3 (w.2 a) = true) : ab_Run ab_mt 55 6 ls (.ref a :: st) w = ab_Run ab_mt 55 9 ls (ab_fv 3 (w.2 a) :: st) w := E_get rfl h
theorem e_55_9 {ls : ab_L} {st : List Value} {w : ab_W} {x y : Int32} : ab_Run ab_mt 55 9 ls (.int y :: .int x :: st) w = if y < x then ab_Run ab_mt 55 23 ls st w else ab_Run ab_mt 55 12 ls st w := E_ic_gt rfl
theorem e_55_12 {ls : ab_L} {st : List Value} {w : ab_W} (h : ab_isR (ls 0) = true) : ab_Run ab_mt 55 12 ls st w = ab_Run ab_mt 55 13 ls (ab_gv (ls 0) :: st) w := E_loadr (n := 1) rfl h
theorem e_55_13 {ls : ab_L} {st : List Value} {w : ab_W} {a : Nat} (h : ab_isF 3 3 (w.2 a) = true) : ab_Run ab_mt 55 13 ls (.ref a :: st) w = ab_Run ab_mt 55 16 ls (ab_fv 3 (w.2 a) :: st) w := E_get rfl h
theorem e_55_16 {ls : ab_L} {st : List Value} {w : ab_W} (h : ab_isR (ls 0) = true) : ab_Run ab_mt 55 16 ls st w = ab_Run ab_mt 55 17 ls (ab_gv (ls 0) :: st) w := E_loadr (n := 1) rfl h
theorem e_55_17 {ls : ab_L} {st : List Value} {w : ab_W} {a : Nat} (h : ab_isF 3 0 (w.2 a) = true) : ab_Run ab_mt 55 17 ls (.ref a :: st) w = ab_Run ab_mt 55 20 ls (ab_fv 0 (w.2 a) :: st) w := E_get rfl h
theorem e_55_20 {ls : ab_L} {st : List Value} {w : ab_W} {x y : Int32} : ab_Run ab_mt 55 20 ls (.int y :: .int x :: st) w = if x < y then ab_Run ab_mt 55 24 ls st w else ab_Run ab_mt 55 23 ls st w := E_ic_lt rfl
theorem e_55_23 {ls : ab_L} {w : ab_W} : ab_Run ab_mt 55 23 ls [] w = some (.inl none, w) := E_ret0 rfl
theorem e_55_24 {ls : ab_L} {st : List Value} {w : ab_W} (h : ab_isR (ls 0) = true) : ab_Run ab_mt 55 24 ls st w = ab_Run ab_mt 55 25 ls (ab_gv (ls 0) :: st) w := E_loadr (n := 1) rfl h
theorem e_55_25 {ls : ab_L} {st : List Value} {w : ab_W} {a : Nat} (h : ab_isF 3 2 (w.2 a) = true) : ab_Run ab_mt 55 25 ls (.ref a :: st) w = ab_Run ab_mt 55 28 ls (ab_fv 2 (w.2 a) :: st) w := E_get rfl h
theorem e_55_28 {ls : ab_L} {st : List Value} {w : ab_W} (h : ab_isI (ls 1) = true) : ab_Run ab_mt 55 28 ls st w = ab_Run ab_mt 55 29 ls (ab_gv (ls 1) :: st) w := E_loadi (n := 1) rfl h
theorem e_55_29 {ls : ab_L} {st : List Value} {w : ab_W} (h : ab_isR (ls 0) = true) : ab_Run ab_mt 55 29 ls st w = ab_Run ab_mt 55 30 ls (ab_gv (ls 0) :: st) w := E_loadr (n := 1) rfl h
theorem e_55_30 {ls : ab_L} {st : List Value} {w : ab_W} {a : Nat} (h : ab_isF 3 1 (w.2 a) = true) : ab_Run ab_mt 55 30 ls (.ref a :: st) w = ab_Run ab_mt 55 33 ls (ab_fv 1 (w.2 a) :: st) w := E_get rfl h
theorem e_55_33 {ls : ab_L} {st : List Value} {w : ab_W} {x y : Int32} : ab_Run ab_mt 55 33 ls (.int y :: .int x :: st) w = ab_Run ab_mt 55 34 ls (.int (x * y) :: st) w := E_ib (f := fun x y => x * y) rfl
theorem e_55_34 {ls : ab_L} {st : List Value} {w : ab_W} (h : ab_isR (ls 0) = true) : ab_Run ab_mt 55 34 ls st w = ab_Run ab_mt 55 35 ls (ab_gv (ls 0) :: st) w := E_loadr (n := 1) rfl h
theorem e_55_35 {ls : ab_L} {st : List Value} {w : ab_W} {a : Nat} (h : ab_isF 3 2 (w.2 a) = true) : ab_Run ab_mt 55 35 ls (.ref a :: st) w = ab_Run ab_mt 55 38 ls (ab_fv 2 (w.2 a) :: st) w := E_get rfl h
theorem e_55_38 {ls : ab_L} {st : List Value} {w : ab_W} (h : ab_isI (ls 1) = true) : ab_Run ab_mt 55 38 ls st w = ab_Run ab_mt 55 39 ls (ab_gv (ls 1) :: st) w := E_loadi (n := 1) rfl h
theorem e_55_39 {ls : ab_L} {st : List Value} {w : ab_W} : ab_Run ab_mt 55 39 ls st w = ab_Run ab_mt 55 40 ls (.int (nI 1) :: st) w := E_push (n := 1) rfl
theorem e_55_40 {ls : ab_L} {st : List Value} {w : ab_W} {x y : Int32} : ab_Run ab_mt 55 40 ls (.int y :: .int x :: st) w = ab_Run ab_mt 55 41 ls (.int (x + y) :: st) w := E_ib (f := fun x y => x + y) rfl
theorem e_55_41 {ls : ab_L} {st : List Value} {w : ab_W} (h : ab_isR (ls 0) = true) : ab_Run ab_mt 55 41 ls st w = ab_Run ab_mt 55 42 ls (ab_gv (ls 0) :: st) w := E_loadr (n := 1) rfl h
theorem e_55_42 {ls : ab_L} {st : List Value} {w : ab_W} {a : Nat} (h : ab_isF 3 1 (w.2 a) = true) : ab_Run ab_mt 55 42 ls (.ref a :: st) w = ab_Run ab_mt 55 45 ls (ab_fv 1 (w.2 a) :: st) w := E_get rfl h
theorem e_55_45 {ls : ab_L} {st : List Value} {w : ab_W} {x y : Int32} : ab_Run ab_mt 55 45 ls (.int y :: .int x :: st) w = ab_Run ab_mt 55 46 ls (.int (x * y) :: st) w := E_ib (f := fun x y => x * y) rfl
theorem e_55_46 {ls : ab_L} {st : List Value} {w : ab_W} (h : ab_isR (ls 0) = true) : ab_Run ab_mt 55 46 ls st w = ab_Run ab_mt 55 47 ls (ab_gv (ls 0) :: st) w := E_loadr (n := 1) rfl h
theorem e_55_47 {ls : ab_L} {st : List Value} {w : ab_W} {a : Nat} (h : ab_isF 3 3 (w.2 a) = true) : ab_Run ab_mt 55 47 ls (.ref a :: st) w = ab_Run ab_mt 55 50 ls (ab_fv 3 (w.2 a) :: st) w := E_get rfl h
theorem e_55_50 {ls : ab_L} {st : List Value} {w : ab_W} (h : ab_isI (ls 1) = true) : ab_Run ab_mt 55 50 ls st w = ab_Run ab_mt 55 51 ls (ab_gv (ls 1) :: st) w := E_loadi (n := 1) rfl h
theorem e_55_51 {ls : ab_L} {st : List Value} {w : ab_W} {x y : Int32} : ab_Run ab_mt 55 51 ls (.int y :: .int x :: st) w = ab_Run ab_mt 55 52 ls (.int (x - y) :: st) w := E_ib (f := fun x y => x - y) rfl
theorem e_55_52 {ls : ab_L} {st : List Value} {w : ab_W} (h : ab_isR (ls 0) = true) : ab_Run ab_mt 55 52 ls st w = ab_Run ab_mt 55 53 ls (ab_gv (ls 0) :: st) w := E_loadr (n := 1) rfl h
theorem e_55_53 {ls : ab_L} {st : List Value} {w : ab_W} {a : Nat} (h : ab_isF 3 1 (w.2 a) = true) : ab_Run ab_mt 55 53 ls (.ref a :: st) w = ab_Run ab_mt 55 56 ls (ab_fv 1 (w.2 a) :: st) w := E_get rfl h
theorem e_55_56 {ls : ab_L} {st : List Value} {w : ab_W} {x y : Int32} : ab_Run ab_mt 55 56 ls (.int y :: .int x :: st) w = ab_Run ab_mt 55 57 ls (.int (x * y) :: st) w := E_ib (f := fun x y => x * y) rfl
theorem e_55_57 {ls : ab_L} {st : List Value} {w : ab_W} {a b : Nat} {n dp sp : Int32} (h : ab_inC sp dp n (w.2 b) (w.2 a) = true) (h8 : ab_w8 st = true) : ab_Run ab_mt 55 57 ls (.int n :: .int dp :: .ref a :: .int sp :: .ref b :: st) w = ab_Run ab_mt 55 60 ls st (w.1, ab_up w.2 a (ab_sC sp.toNatClampNeg dp.toNatClampNeg n.toNatClampNeg (w.2 b) (w.2 a))) := E_copy rfl h h8
theorem e_55_60 {ls : ab_L} {st : List Value} {w : ab_W} (h : ab_isR (ls 0) = true) : ab_Run ab_mt 55 60 ls st w = ab_Run ab_mt 55 61 ls (ab_gv (ls 0) :: st) w := E_loadr (n := 1) rfl h
theorem e_55_61 {ls : ab_L} {st : List Value} {w : ab_W} {x : Nat} : ab_Run ab_mt 55 61 ls (.ref x :: st) w = ab_Run ab_mt 55 62 ls (.ref x :: .ref x :: st) w := E_dup_r rfl
theorem e_55_62 {ls : ab_L} {st : List Value} {w : ab_W} {a : Nat} (h : ab_isF 3 3 (w.2 a) = true) : ab_Run ab_mt 55 62 ls (.ref a :: st) w = ab_Run ab_mt 55 65 ls (ab_fv 3 (w.2 a) :: st) w := E_get rfl h
theorem e_55_65 {ls : ab_L} {st : List Value} {w : ab_W} : ab_Run ab_mt 55 65 ls st w = ab_Run ab_mt 55 66 ls (.int (nI 1) :: st) w := E_push (n := 1) rfl
theorem e_55_66 {ls : ab_L} {st : List Value} {w : ab_W} {x y : Int32} : ab_Run ab_mt 55 66 ls (.int y :: .int x :: st) w = ab_Run ab_mt 55 67 ls (.int (x + y) :: st) w := E_ib (f := fun x y => x + y) rfl
theorem e_55_67 {ls : ab_L} {st : List Value} {w : ab_W} {a : Nat} {x : Int32} (h : ab_isF 3 3 (w.2 a) = true) : ab_Run ab_mt 55 67 ls (.int x :: .ref a :: st) w = ab_Run ab_mt 55 70 ls st (w.1, ab_up w.2 a (ab_sf 3 (.int x) (w.2 a))) := E_put rfl h rfl
theorem e_55_70 {ls : ab_L} {w : ab_W} : ab_Run ab_mt 55 70 ls [] w = some (.inl none, w) := E_ret0 rfl
theorem rv_55 {σ : ab_S} {t : Nat} {x0 : Int32} : ab_recv ab_mt 55 [.ref t, .int x0] σ = ab_isO 3 (σ t) := rfl
theorem e_56_0 {ls : ab_L} {st : List Value} {w : ab_W} (h : ab_isI (ls 1) = true) : ab_Run ab_mt 56 0 ls st w = ab_Run ab_mt 56 1 ls (ab_gv (ls 1) :: st) w := E_loadi (n := 1) rfl h
theorem e_56_1 {ls : ab_L} {st : List Value} {w : ab_W} {x : Int32} : ab_Run ab_mt 56 1 ls (.int x :: st) w = if x < 0 then ab_Run ab_mt 56 12 ls st w else ab_Run ab_mt 56 4 ls st w := E_if_lt rfl
theorem e_56_4 {ls : ab_L} {st : List Value} {w : ab_W} (h : ab_isI (ls 1) = true) : ab_Run ab_mt 56 4 ls st w = ab_Run ab_mt 56 5 ls (ab_gv (ls 1) :: st) w := E_loadi (n := 1) rfl h
theorem e_56_5 {ls : ab_L} {st : List Value} {w : ab_W} (h : ab_isR (ls 0) = true) : ab_Run ab_mt 56 5 ls st w = ab_Run ab_mt 56 6 ls (ab_gv (ls 0) :: st) w := E_loadr (n := 1) rfl h
theorem e_56_6 {ls : ab_L} {st : List Value} {w : ab_W} {a : Nat} (h : ab_isF 3 3 (w.2 a) = true) : ab_Run ab_mt 56 6 ls (.ref a :: st) w = ab_Run ab_mt 56 9 ls (ab_fv 3 (w.2 a) :: st) w := E_get rfl h
theorem e_56_9 {ls : ab_L} {st : List Value} {w : ab_W} {x y : Int32} : ab_Run ab_mt 56 9 ls (.int y :: .int x :: st) w = if x < y then ab_Run ab_mt 56 13 ls st w else ab_Run ab_mt 56 12 ls st w := E_ic_lt rfl
theorem e_56_12 {ls : ab_L} {w : ab_W} : ab_Run ab_mt 56 12 ls [] w = some (.inl none, w) := E_ret0 rfl
theorem e_56_13 {ls : ab_L} {st : List Value} {w : ab_W} (h : ab_isR (ls 0) = true) : ab_Run ab_mt 56 13 ls st w = ab_Run ab_mt 56 14 ls (ab_gv (ls 0) :: st) w := E_loadr (n := 1) rfl h
theorem e_56_14 {ls : ab_L} {st : List Value} {w : ab_W} {x : Nat} : ab_Run ab_mt 56 14 ls (.ref x :: st) w = ab_Run ab_mt 56 15 ls (.ref x :: .ref x :: st) w := E_dup_r rfl
theorem e_56_15 {ls : ab_L} {st : List Value} {w : ab_W} {a : Nat} (h : ab_isF 3 3 (w.2 a) = true) : ab_Run ab_mt 56 15 ls (.ref a :: st) w = ab_Run ab_mt 56 18 ls (ab_fv 3 (w.2 a) :: st) w := E_get rfl h
theorem e_56_18 {ls : ab_L} {st : List Value} {w : ab_W} : ab_Run ab_mt 56 18 ls st w = ab_Run ab_mt 56 19 ls (.int (nI 1) :: st) w := E_push (n := 1) rfl
theorem e_56_19 {ls : ab_L} {st : List Value} {w : ab_W} {x y : Int32} : ab_Run ab_mt 56 19 ls (.int y :: .int x :: st) w = ab_Run ab_mt 56 20 ls (.int (x - y) :: st) w := E_ib (f := fun x y => x - y) rfl
theorem e_56_20 {ls : ab_L} {st : List Value} {w : ab_W} {a : Nat} {x : Int32} (h : ab_isF 3 3 (w.2 a) = true) : ab_Run ab_mt 56 20 ls (.int x :: .ref a :: st) w = ab_Run ab_mt 56 23 ls st (w.1, ab_up w.2 a (ab_sf 3 (.int x) (w.2 a))) := E_put rfl h rfl
theorem e_56_23 {ls : ab_L} {st : List Value} {w : ab_W} (h : ab_isR (ls 0) = true) : ab_Run ab_mt 56 23 ls st w = ab_Run ab_mt 56 24 ls (ab_gv (ls 0) :: st) w := E_loadr (n := 1) rfl h
theorem e_56_24 {ls : ab_L} {st : List Value} {w : ab_W} {a : Nat} (h : ab_isF 3 2 (w.2 a) = true) : ab_Run ab_mt 56 24 ls (.ref a :: st) w = ab_Run ab_mt 56 27 ls (ab_fv 2 (w.2 a) :: st) w := E_get rfl h
theorem e_56_27 {ls : ab_L} {st : List Value} {w : ab_W} (h : ab_isI (ls 1) = true) : ab_Run ab_mt 56 27 ls st w = ab_Run ab_mt 56 28 ls (ab_gv (ls 1) :: st) w := E_loadi (n := 1) rfl h
theorem e_56_28 {ls : ab_L} {st : List Value} {w : ab_W} : ab_Run ab_mt 56 28 ls st w = ab_Run ab_mt 56 29 ls (.int (nI 1) :: st) w := E_push (n := 1) rfl
theorem e_56_29 {ls : ab_L} {st : List Value} {w : ab_W} {x y : Int32} : ab_Run ab_mt 56 29 ls (.int y :: .int x :: st) w = ab_Run ab_mt 56 30 ls (.int (x + y) :: st) w := E_ib (f := fun x y => x + y) rfl
theorem e_56_30 {ls : ab_L} {st : List Value} {w : ab_W} (h : ab_isR (ls 0) = true) : ab_Run ab_mt 56 30 ls st w = ab_Run ab_mt 56 31 ls (ab_gv (ls 0) :: st) w := E_loadr (n := 1) rfl h
theorem e_56_31 {ls : ab_L} {st : List Value} {w : ab_W} {a : Nat} (h : ab_isF 3 1 (w.2 a) = true) : ab_Run ab_mt 56 31 ls (.ref a :: st) w = ab_Run ab_mt 56 34 ls (ab_fv 1 (w.2 a) :: st) w := E_get rfl h
theorem e_56_34 {ls : ab_L} {st : List Value} {w : ab_W} {x y : Int32} : ab_Run ab_mt 56 34 ls (.int y :: .int x :: st) w = ab_Run ab_mt 56 35 ls (.int (x * y) :: st) w := E_ib (f := fun x y => x * y) rfl
theorem e_56_35 {ls : ab_L} {st : List Value} {w : ab_W} (h : ab_isR (ls 0) = true) : ab_Run ab_mt 56 35 ls st w = ab_Run ab_mt 56 36 ls (ab_gv (ls 0) :: st) w := E_loadr (n := 1) rfl h
theorem e_56_36 {ls : ab_L} {st : List Value} {w : ab_W} {a : Nat} (h : ab_isF 3 2 (w.2 a) = true) : ab_Run ab_mt 56 36 ls (.ref a :: st) w = ab_Run ab_mt 56 39 ls (ab_fv 2 (w.2 a) :: st) w := E_get rfl h
theorem e_56_39 {ls : ab_L} {st : List Value} {w : ab_W} (h : ab_isI (ls 1) = true) : ab_Run ab_mt 56 39 ls st w = ab_Run ab_mt 56 40 ls (ab_gv (ls 1) :: st) w := E_loadi (n := 1) rfl h
theorem e_56_40 {ls : ab_L} {st : List Value} {w : ab_W} (h : ab_isR (ls 0) = true) : ab_Run ab_mt 56 40 ls st w = ab_Run ab_mt 56 41 ls (ab_gv (ls 0) :: st) w := E_loadr (n := 1) rfl h
theorem e_56_41 {ls : ab_L} {st : List Value} {w : ab_W} {a : Nat} (h : ab_isF 3 1 (w.2 a) = true) : ab_Run ab_mt 56 41 ls (.ref a :: st) w = ab_Run ab_mt 56 44 ls (ab_fv 1 (w.2 a) :: st) w := E_get rfl h
theorem e_56_44 {ls : ab_L} {st : List Value} {w : ab_W} {x y : Int32} : ab_Run ab_mt 56 44 ls (.int y :: .int x :: st) w = ab_Run ab_mt 56 45 ls (.int (x * y) :: st) w := E_ib (f := fun x y => x * y) rfl
theorem e_56_45 {ls : ab_L} {st : List Value} {w : ab_W} (h : ab_isR (ls 0) = true) : ab_Run ab_mt 56 45 ls st w = ab_Run ab_mt 56 46 ls (ab_gv (ls 0) :: st) w := E_loadr (n := 1) rfl h
theorem e_56_46 {ls : ab_L} {st : List Value} {w : ab_W} {a : Nat} (h : ab_isF 3 3 (w.2 a) = true) : ab_Run ab_mt 56 46 ls (.ref a :: st) w = ab_Run ab_mt 56 49 ls (ab_fv 3 (w.2 a) :: st) w := E_get rfl h
theorem e_56_49 {ls : ab_L} {st : List Value} {w : ab_W} (h : ab_isI (ls 1) = true) : ab_Run ab_mt 56 49 ls st w = ab_Run ab_mt 56 50 ls (ab_gv (ls 1) :: st) w := E_loadi (n := 1) rfl h
theorem e_56_50 {ls : ab_L} {st : List Value} {w : ab_W} {x y : Int32} : ab_Run ab_mt 56 50 ls (.int y :: .int x :: st) w = ab_Run ab_mt 56 51 ls (.int (x - y) :: st) w := E_ib (f := fun x y => x - y) rfl
theorem e_56_51 {ls : ab_L} {st : List Value} {w : ab_W} (h : ab_isR (ls 0) = true) : ab_Run ab_mt 56 51 ls st w = ab_Run ab_mt 56 52 ls (ab_gv (ls 0) :: st) w := E_loadr (n := 1) rfl h
theorem e_56_52 {ls : ab_L} {st : List Value} {w : ab_W} {a : Nat} (h : ab_isF 3 1 (w.2 a) = true) : ab_Run ab_mt 56 52 ls (.ref a :: st) w = ab_Run ab_mt 56 55 ls (ab_fv 1 (w.2 a) :: st) w := E_get rfl h
theorem e_56_55 {ls : ab_L} {st : List Value} {w : ab_W} {x y : Int32} : ab_Run ab_mt 56 55 ls (.int y :: .int x :: st) w = ab_Run ab_mt 56 56 ls (.int (x * y) :: st) w := E_ib (f := fun x y => x * y) rfl
theorem e_56_56 {ls : ab_L} {st : List Value} {w : ab_W} {a b : Nat} {n dp sp : Int32} (h : ab_inC sp dp n (w.2 b) (w.2 a) = true) (h8 : ab_w8 st = true) : ab_Run ab_mt 56 56 ls (.int n :: .int dp :: .ref a :: .int sp :: .ref b :: st) w = ab_Run ab_mt 56 59 ls st (w.1, ab_up w.2 a (ab_sC sp.toNatClampNeg dp.toNatClampNeg n.toNatClampNeg (w.2 b) (w.2 a))) := E_copy rfl h h8
theorem e_56_59 {ls : ab_L} {w : ab_W} : ab_Run ab_mt 56 59 ls [] w = some (.inl none, w) := E_ret0 rfl
theorem rv_56 {σ : ab_S} {t : Nat} {x0 : Int32} : ab_recv ab_mt 56 [.ref t, .int x0] σ = ab_isO 3 (σ t) := rfl
theorem e_57_0 {ls : ab_L} {st : List Value} {w : ab_W} (h : ab_isR (ls 0) = true) : ab_Run ab_mt 57 0 ls st w = ab_Run ab_mt 57 1 ls (ab_gv (ls 0) :: st) w := E_loadr (n := 1) rfl h
theorem e_57_1 {ls : ab_L} {st : List Value} {w : ab_W} (h : ab_isR (ls 1) = true) : ab_Run ab_mt 57 1 ls st w = ab_Run ab_mt 57 2 ls (ab_gv (ls 1) :: st) w := E_loadr (n := 1) rfl h
theorem e_57_2 {ls : ab_L} {st : List Value} {w : ab_W} {a : Nat} (h : ab_isF 3 3 (w.2 a) = true) : ab_Run ab_mt 57 2 ls (.ref a :: st) w = ab_Run ab_mt 57 5 ls (ab_fv 3 (w.2 a) :: st) w := E_get rfl h
theorem e_57_5 {ls : ab_L} {st : List Value} {w : ab_W} (h : ab_isR (ls 0) = true) : ab_Run ab_mt 57 5 ls st w = ab_Run ab_mt 57 6 ls (ab_gv (ls 0) :: st) w := E_loadr (n := 1) rfl h
theorem e_57_6 {ls : ab_L} {st : List Value} {w : ab_W} {a : Nat} (h : ab_isF 3 0 (w.2 a) = true) : ab_Run ab_mt 57 6 ls (.ref a :: st) w = ab_Run ab_mt 57 9 ls (ab_fv 0 (w.2 a) :: st) w := E_get rfl h
theorem e_57_9 {ls : ab_L} {st : List Value} {w : ab_W} {x y : Int32} (h8 : ab_w8 st = true) : ab_Run ab_mt 57 9 ls (.int y :: .int x :: st) w = ab_Run ab_mt 57 12 ls (.int (if y < x then y else x) :: st) w := E_mini rfl h8
theorem e_57_12 {ls : ab_L} {st : List Value} {w : ab_W} {a : Nat} {x : Int32} (h : ab_isF 3 3 (w.2 a) = true) : ab_Run ab_mt 57 12 ls (.int x :: .ref a :: st) w = ab_Run ab_mt 57 15 ls st (w.1, ab_up w.2 a (ab_sf 3 (.int x) (w.2 a))) := E_put rfl h rfl
theorem e_57_15 {ls : ab_L} {st : List Value} {w : ab_W} (h : ab_isR (ls 1) = true) : ab_Run ab_mt 57 15 ls st w = ab_Run ab_mt 57 16 ls (ab_gv (ls 1) :: st) w := E_loadr (n := 1) rfl h
theorem e_57_16 {ls : ab_L} {st : List Value} {w : ab_W} {a : Nat} (h : ab_isF 3 2 (w.2 a) = true) : ab_Run ab_mt 57 16 ls (.ref a :: st) w = ab_Run ab_mt 57 19 ls (ab_fv 2 (w.2 a) :: st) w := E_get rfl h
theorem e_57_19 {ls : ab_L} {st : List Value} {w : ab_W} : ab_Run ab_mt 57 19 ls st w = ab_Run ab_mt 57 20 ls (.int (nI 0) :: st) w := E_push (n := 1) rfl
theorem e_57_20 {ls : ab_L} {st : List Value} {w : ab_W} (h : ab_isR (ls 0) = true) : ab_Run ab_mt 57 20 ls st w = ab_Run ab_mt 57 21 ls (ab_gv (ls 0) :: st) w := E_loadr (n := 1) rfl h
theorem e_57_21 {ls : ab_L} {st : List Value} {w : ab_W} {a : Nat} (h : ab_isF 3 2 (w.2 a) = true) : ab_Run ab_mt 57 21 ls (.ref a :: st) w = ab_Run ab_mt 57 24 ls (ab_fv 2 (w.2 a) :: st) w := E_get rfl h
theorem e_57_24 {ls : ab_L} {st : List Value} {w : ab_W} : ab_Run ab_mt 57 24 ls st w = ab_Run ab_mt 57 25 ls (.int (nI 0) :: st) w := E_push (n := 1) rfl
theorem e_57_25 {ls : ab_L} {st : List Value} {w : ab_W} (h : ab_isR (ls 0) = true) : ab_Run ab_mt 57 25 ls st w = ab_Run ab_mt 57 26 ls (ab_gv (ls 0) :: st) w := E_loadr (n := 1) rfl h
theorem e_57_26 {ls : ab_L} {st : List Value} {w : ab_W} {a : Nat} (h : ab_isF 3 3 (w.2 a) = true) : ab_Run ab_mt 57 26 ls (.ref a :: st) w = ab_Run ab_mt 57 29 ls (ab_fv 3 (w.2 a) :: st) w := E_get rfl h
theorem e_57_29 {ls : ab_L} {st : List Value} {w : ab_W} (h : ab_isR (ls 0) = true) : ab_Run ab_mt 57 29 ls st w = ab_Run ab_mt 57 30 ls (ab_gv (ls 0) :: st) w := E_loadr (n := 1) rfl h
theorem e_57_30 {ls : ab_L} {st : List Value} {w : ab_W} {a : Nat} (h : ab_isF 3 1 (w.2 a) = true) : ab_Run ab_mt 57 30 ls (.ref a :: st) w = ab_Run ab_mt 57 33 ls (ab_fv 1 (w.2 a) :: st) w := E_get rfl h
theorem e_57_33 {ls : ab_L} {st : List Value} {w : ab_W} {x y : Int32} : ab_Run ab_mt 57 33 ls (.int y :: .int x :: st) w = ab_Run ab_mt 57 34 ls (.int (x * y) :: st) w := E_ib (f := fun x y => x * y) rfl
theorem e_57_34 {ls : ab_L} {st : List Value} {w : ab_W} {a b : Nat} {n dp sp : Int32} (h : ab_inC sp dp n (w.2 b) (w.2 a) = true) (h8 : ab_w8 st = true) : ab_Run ab_mt 57 34 ls (.int n :: .int dp :: .ref a :: .int sp :: .ref b :: st) w = ab_Run ab_mt 57 37 ls st (w.1, ab_up w.2 a (ab_sC sp.toNatClampNeg dp.toNatClampNeg n.toNatClampNeg (w.2 b) (w.2 a))) := E_copy rfl h h8
theorem e_57_37 {ls : ab_L} {w : ab_W} : ab_Run ab_mt 57 37 ls [] w = some (.inl none, w) := E_ret0 rfl
theorem rv_57 {σ : ab_S} {t : Nat} {x0 : Nat} : ab_recv ab_mt 57 [.ref t, .ref x0] σ = ab_isO 3 (σ t) := rfl
theorem e_58_0 {ls : ab_L} {st : List Value} {w : ab_W} (h : ab_isR (ls 0) = true) : ab_Run ab_mt 58 0 ls st w = ab_Run ab_mt 58 1 ls (ab_gv (ls 0) :: st) w := E_loadr (n := 1) rfl h
theorem e_58_1 {ls : ab_L} {st : List Value} {w : ab_W} {a : Nat} (h8 : ab_w8 st = true) : ab_Run ab_mt 58 1 ls (.ref a :: st) w = ab_Run ab_mt 58 4 ls st w := E_oini rfl h8
theorem e_58_4 {ls : ab_L} {w : ab_W} : ab_Run ab_mt 58 4 ls [] w = some (.inl none, w) := E_ret0 rfl
theorem rv_58 {σ : ab_S} {t : Nat} : ab_recv ab_mt 58 [.ref t] σ = ab_isO 4 (σ t) := rfl
theorem e_59_0 {ls : ab_L} {st : List Value} {w : ab_W} (h : ab_isR (ls 0) = true) : ab_Run ab_mt 59 0 ls st w = ab_Run ab_mt 59 1 ls (ab_gv (ls 0) :: st) w := E_loadr (n := 1) rfl h
theorem e_59_1 {ls : ab_L} {st : List Value} {w : ab_W} {a : Nat} (h8 : ab_w8 st = true) : ab_Run ab_mt 59 1 ls (.ref a :: st) w = ab_Run ab_mt 59 4 ls st w := E_oini rfl h8
theorem e_59_4 {ls : ab_L} {st : List Value} {w : ab_W} (h : ab_isR (ls 0) = true) : ab_Run ab_mt 59 4 ls st w = ab_Run ab_mt 59 5 ls (ab_gv (ls 0) :: st) w := E_loadr (n := 1) rfl h
theorem e_59_5 {ls : ab_L} {st : List Value} {w : ab_W} : ab_Run ab_mt 59 5 ls st w = ab_Run ab_mt 59 7 ls (.int (nI 8) :: st) w := E_push (n := 2) rfl
theorem e_59_7 {ls : ab_L} {st : List Value} {w : ab_W} {n : Int32} (h : w.1.1 = true) (hn : ¬ (n < 0 ∨ 60000 < n.toNatClampNeg)) : ab_Run ab_mt 59 7 ls (.int n :: st) w = ab_Run ab_mt 59 10 ls (.ref w.1.2.1 :: st) (ab_mk w.1 w.2 (ab_qa n.toNatClampNeg (ab_nq n.toNatClampNeg)) n.toNatClampNeg) := E_new (n := 3) (x := ab_qa n.toNatClampNeg (ab_nq n.toNatClampNeg)) (sz := n.toNatClampNeg) (rest := st) rfl (if_neg hn) h
theorem e_59_10 {ls : ab_L} {st : List Value} {w : ab_W} {a : Nat} {x : Nat} (h : ab_isF 5 0 (w.2 a) = true) : ab_Run ab_mt 59 10 ls (.ref x :: .ref a :: st) w = ab_Run ab_mt 59 13 ls st (w.1, ab_up w.2 a (ab_sf 0 (.ref x) (w.2 a))) := E_put rfl h rfl
theorem e_59_13 {ls : ab_L} {st : List Value} {w : ab_W} : ab_Run ab_mt 59 13 ls st w = ab_Run ab_mt 59 14 ls (.int (nI 0) :: st) w := E_push (n := 1) rfl
theorem e_59_14 {ls : ab_L} {st : List Value} {w : ab_W} {x : Int32} : ab_Run ab_mt 59 14 ls (.int x :: st) w = ab_Run ab_mt 59 15 (ab_l1 ls 1 (.int x)) st w := E_stori (n := 1) rfl
theorem e_59_15 {ls : ab_L} {st : List Value} {w : ab_W} (h : ab_isI (ls 1) = true) : ab_Run ab_mt 59 15 ls st w = ab_Run ab_mt 59 16 ls (ab_gv (ls 1) :: st) w := E_loadi (n := 1) rfl h
theorem e_59_16 {ls : ab_L} {st : List Value} {w : ab_W} (h : ab_isR (ls 0) = true) : ab_Run ab_mt 59 16 ls st w = ab_Run ab_mt 59 17 ls (ab_gv (ls 0) :: st) w := E_loadr (n := 1) rfl h
theorem e_59_17 {ls : ab_L} {st : List Value} {w : ab_W} {a : Nat} (h : ab_isF 5 0 (w.2 a) = true) : ab_Run ab_mt 59 17 ls (.ref a :: st) w = ab_Run ab_mt 59 20 ls (ab_fv 0 (w.2 a) :: st) w := E_get rfl h
theorem e_59_20 {ls : ab_L} {st : List Value} {w : ab_W} {a : Nat} (h : ab_isA (w.2 a) = true) : ab_Run ab_mt 59 20 ls (.ref a :: st) w = ab_Run ab_mt 59 21 ls (.int (nI (ab_ln (w.2 a))) :: st) w := E_alen rfl h
theorem e_59_21 {ls : ab_L} {st : List Value} {w : ab_W} {x y : Int32} : ab_Run ab_mt 59 21 ls (.int y :: .int x :: st) w = if y ≤ x then ab_Run ab_mt 59 43 ls st w else ab_Run ab_mt 59 24 ls st w := E_ic_ge rfl
theorem e_59_24 {ls : ab_L} {st : List Value} {w : ab_W} (h : ab_isR (ls 0) = true) : ab_Run ab_mt 59 24 ls st w = ab_Run ab_mt 59 25 ls (ab_gv (ls 0) :: st) w := E_loadr (n := 1) rfl h
theorem e_59_25 {ls : ab_L} {st : List Value} {w : ab_W} {a : Nat} (h : ab_isF 5 0 (w.2 a) = true) : ab_Run ab_mt 59 25 ls (.ref a :: st) w = ab_Run ab_mt 59 28 ls (ab_fv 0 (w.2 a) :: st) w := E_get rfl h
theorem e_59_28 {ls : ab_L} {st : List Value} {w : ab_W} (h : ab_isI (ls 1) = true) : ab_Run ab_mt 59 28 ls st w = ab_Run ab_mt 59 29 ls (ab_gv (ls 1) :: st) w := E_loadi (n := 1) rfl h
theorem e_59_29 {ls : ab_L} {st : List Value} {w : ab_W} (h : w.1.1 = true) : ab_Run ab_mt 59 29 ls st w = ab_Run ab_mt 59 32 ls (.ref w.1.2.1 :: st) (ab_mk w.1 w.2 (ab_ob 2 [.null, .null, .null]) 3) := E_new (n := 3) (x := ab_ob 2 [.null, .null, .null]) (sz := 3) (rest := st) rfl rfl h
theorem e_59_32 {ls : ab_L} {st : List Value} {w : ab_W} {x : Nat} : ab_Run ab_mt 59 32 ls (.ref x :: st) w = ab_Run ab_mt 59 33 ls (.ref x :: .ref x :: st) w := E_dup_r rfl
theorem e_59_33 {ls : ab_L} {st : List Value} {w : ab_W} {v0 : Value} (h1 : ab_recv ab_mt 50 [v0] w.2 = true) (h8 : ab_w8 st = true) : ab_Run ab_mt 59 33 ls (v0 :: st) w = ab_aft 50 59 33 ls st (ab_Cl 50 [v0] w) := E_call1 rfl h1 h8
theorem e_59_36 {ls : ab_L} {st : List Value} {w : ab_W} {a x : Nat} {i : Int32} (h : ab_inP i (w.2 a) = true) (h2 : ab_isO 2 (w.2 x) = true) : ab_Run ab_mt 59 36 ls (.ref x :: .int i :: .ref a :: st) w = ab_Run ab_mt 59 37 ls st (w.1, ab_up w.2 a (ab_sQ i.toNatClampNeg x (w.2 a))) := E_aast rfl h h2
theorem e_59_37 {ls : ab_L} {st : List Value} {w : ab_W} (h : ab_isI (ls 1) = true) : ab_Run ab_mt 59 37 ls st w = ab_Run ab_mt 59 40 (ab_l1 ls 1 (.int (ab_gi (ls 1) + (nI 1)))) st w := E_iinc rfl h
theorem e_59_40 {ls : ab_L} {st : List Value} {w : ab_W} : ab_Run ab_mt 59 40 ls st w = ab_Run ab_mt 59 15 ls st w := E_goto rfl
theorem e_59_43 {ls : ab_L} {w : ab_W} : ab_Run ab_mt 59 43 ls [] w = some (.inl none, w) := E_ret0 rfl
theorem rv_59 {σ : ab_S} {t : Nat} : ab_recv ab_mt 59 [.ref t] σ = ab_isO 5 (σ t) := rfl
theorem e_60_0 {ls : ab_L} {st : List Value} {w : ab_W} (h : ab_isR (ls 0) = true) : ab_Run ab_mt 60 0 ls st w = ab_Run ab_mt 60 1 ls (ab_gv (ls 0) :: st) w := E_loadr (n := 1) rfl h
theorem e_60_1 {ls : ab_L} {st : List Value} {w : ab_W} {a : Nat} (h : ab_isF 5 1 (w.2 a) = true) : ab_Run ab_mt 60 1 ls (.ref a :: st) w = ab_Run ab_mt 60 4 ls (ab_fv 1 (w.2 a) :: st) w := E_get rfl h
theorem e_60_4 {ls : ab_L} {st : List Value} {w : ab_W} (h : ab_isR (ls 0) = true) : ab_Run ab_mt 60 4 ls st w = ab_Run ab_mt 60 5 ls (ab_gv (ls 0) :: st) w := E_loadr (n := 1) rfl h
theorem e_60_5 {ls : ab_L} {st : List Value} {w : ab_W} {a : Nat} (h : ab_isF 5 0 (w.2 a) = true) : ab_Run ab_mt 60 5 ls (.ref a :: st) w = ab_Run ab_mt 60 8 ls (ab_fv 0 (w.2 a) :: st) w := E_get rfl h
theorem e_60_8 {ls : ab_L} {st : List Value} {w : ab_W} {a : Nat} (h : ab_isA (w.2 a) = true) : ab_Run ab_mt 60 8 ls (.ref a :: st) w = ab_Run ab_mt 60 9 ls (.int (nI (ab_ln (w.2 a))) :: st) w := E_alen rfl h
theorem e_60_9 {ls : ab_L} {st : List Value} {w : ab_W} {x y : Int32} : ab_Run ab_mt 60 9 ls (.int y :: .int x :: st) w = if x < y then ab_Run ab_mt 60 27 ls st w else ab_Run ab_mt 60 12 ls st w := E_ic_lt rfl
theorem e_60_12 {ls : ab_L} {st : List Value} {w : ab_W} (h : ab_isR (ls 0) = true) : ab_Run ab_mt 60 12 ls st w = ab_Run ab_mt 60 13 ls (ab_gv (ls 0) :: st) w := E_loadr (n := 1) rfl h
theorem e_60_13 {ls : ab_L} {st : List Value} {w : ab_W} {v0 : Value} (h1 : ab_recv ab_mt 61 [v0] w.2 = true) (h8 : ab_w8 st = true) : ab_Run ab_mt 60 13 ls (v0 :: st) w = ab_aft 61 60 13 ls st (ab_Cl 61 [v0] w) := E_call1 rfl h1 h8
theorem e_60_16 {ls : ab_L} {st : List Value} {w : ab_W} (h : ab_isR (ls 0) = true) : ab_Run ab_mt 60 16 ls st w = ab_Run ab_mt 60 17 ls (ab_gv (ls 0) :: st) w := E_loadr (n := 1) rfl h
theorem e_60_17 {ls : ab_L} {st : List Value} {w : ab_W} (h : ab_isR (ls 0) = true) : ab_Run ab_mt 60 17 ls st w = ab_Run ab_mt 60 18 ls (ab_gv (ls 0) :: st) w := E_loadr (n := 1) rfl h
theorem e_60_18 {ls : ab_L} {st : List Value} {w : ab_W} {a : Nat} (h : ab_isF 5 0 (w.2 a) = true) : ab_Run ab_mt 60 18 ls (.ref a :: st) w = ab_Run ab_mt 60 21 ls (ab_fv 0 (w.2 a) :: st) w := E_get rfl h
theorem e_60_21 {ls : ab_L} {st : List Value} {w : ab_W} {a : Nat} (h : ab_isA (w.2 a) = true) : ab_Run ab_mt 60 21 ls (.ref a :: st) w = ab_Run ab_mt 60 22 ls (.int (nI (ab_ln (w.2 a))) :: st) w := E_alen rfl h
theorem e_60_22 {ls : ab_L} {st : List Value} {w : ab_W} : ab_Run ab_mt 60 22 ls st w = ab_Run ab_mt 60 23 ls (.int (nI 1) :: st) w := E_push (n := 1) rfl
theorem e_60_23 {ls : ab_L} {st : List Value} {w : ab_W} {x y : Int32} : ab_Run ab_mt 60 23 ls (.int y :: .int x :: st) w = ab_Run ab_mt 60 24 ls (.int (x - y) :: st) w := E_ib (f := fun x y => x - y) rfl
theorem e_60_24 {ls : ab_L} {st : List Value} {w : ab_W} {a : Nat} {x : Int32} (h : ab_isF 5 1 (w.2 a) = true) : ab_Run ab_mt 60 24 ls (.int x :: .ref a :: st) w = ab_Run ab_mt 60 27 ls st (w.1, ab_up w.2 a (ab_sf 1 (.int x) (w.2 a))) := E_put rfl h rfl
theorem e_60_27 {ls : ab_L} {st : List Value} {w : ab_W} (h : ab_isR (ls 0) = true) : ab_Run ab_mt 60 27 ls st w = ab_Run ab_mt 60 28 ls (ab_gv (ls 0) :: st) w := E_loadr (n := 1) rfl h
theorem e_60_28 {ls : ab_L} {st : List Value} {w : ab_W} {a : Nat} (h : ab_isF 5 0 (w.2 a) = true) : ab_Run ab_mt 60 28 ls (.ref a :: st) w = ab_Run ab_mt 60 31 ls (ab_fv 0 (w.2 a) :: st) w := E_get rfl h
theorem e_60_31 {ls : ab_L} {st : List Value} {w : ab_W} (h : ab_isR (ls 0) = true) : ab_Run ab_mt 60 31 ls st w = ab_Run ab_mt 60 32 ls (ab_gv (ls 0) :: st) w := E_loadr (n := 1) rfl h
theorem e_60_32 {ls : ab_L} {st : List Value} {w : ab_W} {a : Nat} (h : ab_isF 5 1 (w.2 a) = true) : ab_Run ab_mt 60 32 ls (.ref a :: st) w = ab_Run ab_mt 60 35 ls (ab_fv 1 (w.2 a) :: st) w := E_get rfl h
theorem e_60_35 {ls : ab_L} {st : List Value} {w : ab_W} {a : Nat} {i : Int32} (h : ab_inQ i (w.2 a) = true) : ab_Run ab_mt 60 35 ls (.int i :: .ref a :: st) w = ab_Run ab_mt 60 36 ls (.ref (ab_aQ i.toNatClampNeg (w.2 a)) :: st) w := E_aald rfl h
theorem e_60_36 {ls : ab_L} {st : List Value} {w : ab_W} (h : ab_isR (ls 1) = true) : ab_Run ab_mt 60 36 ls st w = ab_Run ab_mt 60 37 ls (ab_gv (ls 1) :: st) w := E_loadr (n := 1) rfl h
theorem e_60_37 {ls : ab_L} {st : List Value} {w : ab_W} {v0 v1 : Value} (h1 : ab_recv ab_mt 51 [v0, v1] w.2 = true) (h8 : ab_w8 st = true) : ab_Run ab_mt 60 37 ls (v1 :: v0 :: st) w = ab_aft 51 60 37 ls st (ab_Cl 51 [v0, v1] w) := E_call2 rfl h1 h8
theorem e_60_40 {ls : ab_L} {st : List Value} {w : ab_W} (h : ab_isR (ls 0) = true) : ab_Run ab_mt 60 40 ls st w = ab_Run ab_mt 60 41 ls (ab_gv (ls 0) :: st) w := E_loadr (n := 1) rfl h
theorem e_60_41 {ls : ab_L} {st : List Value} {w : ab_W} {x : Nat} : ab_Run ab_mt 60 41 ls (.ref x :: st) w = ab_Run ab_mt 60 42 ls (.ref x :: .ref x :: st) w := E_dup_r rfl
theorem e_60_42 {ls : ab_L} {st : List Value} {w : ab_W} {a : Nat} (h : ab_isF 5 1 (w.2 a) = true) : ab_Run ab_mt 60 42 ls (.ref a :: st) w = ab_Run ab_mt 60 45 ls (ab_fv 1 (w.2 a) :: st) w := E_get rfl h
theorem e_60_45 {ls : ab_L} {st : List Value} {w : ab_W} : ab_Run ab_mt 60 45 ls st w = ab_Run ab_mt 60 46 ls (.int (nI 1) :: st) w := E_push (n := 1) rfl
theorem e_60_46 {ls : ab_L} {st : List Value} {w : ab_W} {x y : Int32} : ab_Run ab_mt 60 46 ls (.int y :: .int x :: st) w = ab_Run ab_mt 60 47 ls (.int (x + y) :: st) w := E_ib (f := fun x y => x + y) rfl
theorem e_60_47 {ls : ab_L} {st : List Value} {w : ab_W} {a : Nat} {x : Int32} (h : ab_isF 5 1 (w.2 a) = true) : ab_Run ab_mt 60 47 ls (.int x :: .ref a :: st) w = ab_Run ab_mt 60 50 ls st (w.1, ab_up w.2 a (ab_sf 1 (.int x) (w.2 a))) := E_put rfl h rfl
theorem e_60_50 {ls : ab_L} {w : ab_W} : ab_Run ab_mt 60 50 ls [] w = some (.inl none, w) := E_ret0 rfl
theorem rv_60 {σ : ab_S} {t : Nat} {x0 : Nat} : ab_recv ab_mt 60 [.ref t, .ref x0] σ = ab_isO 5 (σ t) := rfl
theorem e_61_0 {ls : ab_L} {st : List Value} {w : ab_W} (h : ab_isR (ls 0) = true) : ab_Run ab_mt 61 0 ls st w = ab_Run ab_mt 61 1 ls (ab_gv (ls 0) :: st) w := E_loadr (n := 1) rfl h
theorem e_61_1 {ls : ab_L} {st : List Value} {w : ab_W} {a : Nat} (h : ab_isF 5 0 (w.2 a) = true) : ab_Run ab_mt 61 1 ls (.ref a :: st) w = ab_Run ab_mt 61 4 ls (ab_fv 0 (w.2 a) :: st) w := E_get rfl h
theorem e_61_4 {ls : ab_L} {st : List Value} {w : ab_W} : ab_Run ab_mt 61 4 ls st w = ab_Run ab_mt 61 5 ls (.int (nI 0) :: st) w := E_push (n := 1) rfl
theorem e_61_5 {ls : ab_L} {st : List Value} {w : ab_W} {a : Nat} {i : Int32} (h : ab_inQ i (w.2 a) = true) : ab_Run ab_mt 61 5 ls (.int i :: .ref a :: st) w = ab_Run ab_mt 61 6 ls (.ref (ab_aQ i.toNatClampNeg (w.2 a)) :: st) w := E_aald rfl h
theorem e_61_6 {ls : ab_L} {st : List Value} {w : ab_W} {x : Nat} : ab_Run ab_mt 61 6 ls (.ref x :: st) w = ab_Run ab_mt 61 7 (ab_l1 ls 1 (.ref x)) st w := E_storr (n := 1) rfl
theorem e_61_7 {ls : ab_L} {st : List Value} {w : ab_W} : ab_Run ab_mt 61 7 ls st w = ab_Run ab_mt 61 8 ls (.int (nI 1) :: st) w := E_push (n := 1) rfl
theorem e_61_8 {ls : ab_L} {st : List Value} {w : ab_W} {x : Int32} : ab_Run ab_mt 61 8 ls (.int x :: st) w = ab_Run ab_mt 61 9 (ab_l1 ls 2 (.int x)) st w := E_stori (n := 1) rfl
theorem e_61_9 {ls : ab_L} {st : List Value} {w : ab_W} (h : ab_isI (ls 2) = true) : ab_Run ab_mt 61 9 ls st w = ab_Run ab_mt 61 10 ls (ab_gv (ls 2) :: st) w := E_loadi (n := 1) rfl h
theorem e_61_10 {ls : ab_L} {st : List Value} {w : ab_W} (h : ab_isR (ls 0) = true) : ab_Run ab_mt 61 10 ls st w = ab_Run ab_mt 61 11 ls (ab_gv (ls 0) :: st) w := E_loadr (n := 1) rfl h
theorem e_61_11 {ls : ab_L} {st : List Value} {w : ab_W} {a : Nat} (h : ab_isF 5 0 (w.2 a) = true) : ab_Run ab_mt 61 11 ls (.ref a :: st) w = ab_Run ab_mt 61 14 ls (ab_fv 0 (w.2 a) :: st) w := E_get rfl h
theorem e_61_14 {ls : ab_L} {st : List Value} {w : ab_W} {a : Nat} (h : ab_isA (w.2 a) = true) : ab_Run ab_mt 61 14 ls (.ref a :: st) w = ab_Run ab_mt 61 15 ls (.int (nI (ab_ln (w.2 a))) :: st) w := E_alen rfl h
theorem e_61_15 {ls : ab_L} {st : List Value} {w : ab_W} {x y : Int32} : ab_Run ab_mt 61 15 ls (.int y :: .int x :: st) w = if y ≤ x then ab_Run ab_mt 61 38 ls st w else ab_Run ab_mt 61 18 ls st w := E_ic_ge rfl
theorem e_61_18 {ls : ab_L} {st : List Value} {w : ab_W} (h : ab_isR (ls 0) = true) : ab_Run ab_mt 61 18 ls st w = ab_Run ab_mt 61 19 ls (ab_gv (ls 0) :: st) w := E_loadr (n := 1) rfl h
theorem e_61_19 {ls : ab_L} {st : List Value} {w : ab_W} {a : Nat} (h : ab_isF 5 0 (w.2 a) = true) : ab_Run ab_mt 61 19 ls (.ref a :: st) w = ab_Run ab_mt 61 22 ls (ab_fv 0 (w.2 a) :: st) w := E_get rfl h
theorem e_61_22 {ls : ab_L} {st : List Value} {w : ab_W} (h : ab_isI (ls 2) = true) : ab_Run ab_mt 61 22 ls st w = ab_Run ab_mt 61 23 ls (ab_gv (ls 2) :: st) w := E_loadi (n := 1) rfl h
theorem e_61_23 {ls : ab_L} {st : List Value} {w : ab_W} : ab_Run ab_mt 61 23 ls st w = ab_Run ab_mt 61 24 ls (.int (nI 1) :: st) w := E_push (n := 1) rfl
theorem e_61_24 {ls : ab_L} {st : List Value} {w : ab_W} {x y : Int32} : ab_Run ab_mt 61 24 ls (.int y :: .int x :: st) w = ab_Run ab_mt 61 25 ls (.int (x - y) :: st) w := E_ib (f := fun x y => x - y) rfl
theorem e_61_25 {ls : ab_L} {st : List Value} {w : ab_W} (h : ab_isR (ls 0) = true) : ab_Run ab_mt 61 25 ls st w = ab_Run ab_mt 61 26 ls (ab_gv (ls 0) :: st) w := E_loadr (n := 1) rfl h
theorem e_61_26 {ls : ab_L} {st : List Value} {w : ab_W} {a : Nat} (h : ab_isF 5 0 (w.2 a) = true) : ab_Run ab_mt 61 26 ls (.ref a :: st) w = ab_Run ab_mt 61 29 ls (ab_fv 0 (w.2 a) :: st) w := E_get rfl h
theorem e_61_29 {ls : ab_L} {st : List Value} {w : ab_W} (h : ab_isI (ls 2) = true) : ab_Run ab_mt 61 29 ls st w = ab_Run ab_mt 61 30 ls (ab_gv (ls 2) :: st) w := E_loadi (n := 1) rfl h
theorem e_61_30 {ls : ab_L} {st : List Value} {w : ab_W} {a : Nat} {i : Int32} (h : ab_inQ i (w.2 a) = true) : ab_Run ab_mt 61 30 ls (.int i :: .ref a :: st) w = ab_Run ab_mt 61 31 ls (.ref (ab_aQ i.toNatClampNeg (w.2 a)) :: st) w := E_aald rfl h
theorem e_61_31 {ls : ab_L} {st : List Value} {w : ab_W} {a x : Nat} {i : Int32} (h : ab_inP i (w.2 a) = true) (h2 : ab_isO 2 (w.2 x) = true) : ab_Run ab_mt 61 31 ls (.ref x :: .int i :: .ref a :: st) w = ab_Run ab_mt 61 32 ls st (w.1, ab_up w.2 a (ab_sQ i.toNatClampNeg x (w.2 a))) := E_aast rfl h h2
theorem e_61_32 {ls : ab_L} {st : List Value} {w : ab_W} (h : ab_isI (ls 2) = true) : ab_Run ab_mt 61 32 ls st w = ab_Run ab_mt 61 35 (ab_l1 ls 2 (.int (ab_gi (ls 2) + (nI 1)))) st w := E_iinc rfl h
theorem e_61_35 {ls : ab_L} {st : List Value} {w : ab_W} : ab_Run ab_mt 61 35 ls st w = ab_Run ab_mt 61 9 ls st w := E_goto rfl
theorem e_61_38 {ls : ab_L} {st : List Value} {w : ab_W} (h : ab_isR (ls 0) = true) : ab_Run ab_mt 61 38 ls st w = ab_Run ab_mt 61 39 ls (ab_gv (ls 0) :: st) w := E_loadr (n := 1) rfl h
theorem e_61_39 {ls : ab_L} {st : List Value} {w : ab_W} {a : Nat} (h : ab_isF 5 0 (w.2 a) = true) : ab_Run ab_mt 61 39 ls (.ref a :: st) w = ab_Run ab_mt 61 42 ls (ab_fv 0 (w.2 a) :: st) w := E_get rfl h
theorem e_61_42 {ls : ab_L} {st : List Value} {w : ab_W} (h : ab_isR (ls 0) = true) : ab_Run ab_mt 61 42 ls st w = ab_Run ab_mt 61 43 ls (ab_gv (ls 0) :: st) w := E_loadr (n := 1) rfl h
theorem e_61_43 {ls : ab_L} {st : List Value} {w : ab_W} {a : Nat} (h : ab_isF 5 0 (w.2 a) = true) : ab_Run ab_mt 61 43 ls (.ref a :: st) w = ab_Run ab_mt 61 46 ls (ab_fv 0 (w.2 a) :: st) w := E_get rfl h
theorem e_61_46 {ls : ab_L} {st : List Value} {w : ab_W} {a : Nat} (h : ab_isA (w.2 a) = true) : ab_Run ab_mt 61 46 ls (.ref a :: st) w = ab_Run ab_mt 61 47 ls (.int (nI (ab_ln (w.2 a))) :: st) w := E_alen rfl h
theorem e_61_47 {ls : ab_L} {st : List Value} {w : ab_W} : ab_Run ab_mt 61 47 ls st w = ab_Run ab_mt 61 48 ls (.int (nI 1) :: st) w := E_push (n := 1) rfl
theorem e_61_48 {ls : ab_L} {st : List Value} {w : ab_W} {x y : Int32} : ab_Run ab_mt 61 48 ls (.int y :: .int x :: st) w = ab_Run ab_mt 61 49 ls (.int (x - y) :: st) w := E_ib (f := fun x y => x - y) rfl
theorem e_61_49 {ls : ab_L} {st : List Value} {w : ab_W} (h : ab_isR (ls 1) = true) : ab_Run ab_mt 61 49 ls st w = ab_Run ab_mt 61 50 ls (ab_gv (ls 1) :: st) w := E_loadr (n := 1) rfl h
theorem e_61_50 {ls : ab_L} {st : List Value} {w : ab_W} {a x : Nat} {i : Int32} (h : ab_inP i (w.2 a) = true) (h2 : ab_isO 2 (w.2 x) = true) : ab_Run ab_mt 61 50 ls (.ref x :: .int i :: .ref a :: st) w = ab_Run ab_mt 61 51 ls st (w.1, ab_up w.2 a (ab_sQ i.toNatClampNeg x (w.2 a))) := E_aast rfl h h2
theorem e_61_51 {ls : ab_L} {w : ab_W} : ab_Run ab_mt 61 51 ls [] w = some (.inl none, w) := E_ret0 rfl
theorem rv_61 {σ : ab_S} {t : Nat} : ab_recv ab_mt 61 [.ref t] σ = ab_isO 5 (σ t) := rfl
theorem e_62_0 {ls : ab_L} {st : List Value} {w : ab_W} (h : ab_isR (ls 0) = true) : ab_Run ab_mt 62 0 ls st w = ab_Run ab_mt 62 1 ls (ab_gv (ls 0) :: st) w := E_loadr (n := 1) rfl h
theorem e_62_1 {ls : ab_L} {st : List Value} {w : ab_W} {a : Nat} (h8 : ab_w8 st = true) : ab_Run ab_mt 62 1 ls (.ref a :: st) w = ab_Run ab_mt 62 4 ls st w := E_oini rfl h8
theorem e_62_4 {ls : ab_L} {st : List Value} {w : ab_W} (h : ab_isR (ls 0) = true) : ab_Run ab_mt 62 4 ls st w = ab_Run ab_mt 62 5 ls (ab_gv (ls 0) :: st) w := E_loadr (n := 1) rfl h
theorem e_62_5 {ls : ab_L} {st : List Value} {w : ab_W} (h : w.1.1 = true) : ab_Run ab_mt 62 5 ls st w = ab_Run ab_mt 62 8 ls (.ref w.1.2.1 :: st) (ab_mk w.1 w.2 (ab_ob 3 [.int 0, .int 0, .null, .int 0]) 4) := E_new (n := 3) (x := ab_ob 3 [.int 0, .int 0, .null, .int 0]) (sz := 4) (rest := st) rfl rfl h
theorem e_62_8 {ls : ab_L} {st : List Value} {w : ab_W} {x : Nat} : ab_Run ab_mt 62 8 ls (.ref x :: st) w = ab_Run ab_mt 62 9 ls (.ref x :: .ref x :: st) w := E_dup_r rfl
theorem e_62_9 {ls : ab_L} {st : List Value} {w : ab_W} : ab_Run ab_mt 62 9 ls st w = ab_Run ab_mt 62 11 ls (.int (nI 31) :: st) w := E_push (n := 2) rfl
theorem e_62_11 {ls : ab_L} {st : List Value} {w : ab_W} : ab_Run ab_mt 62 11 ls st w = ab_Run ab_mt 62 12 ls (.int (nI 5) :: st) w := E_push (n := 1) rfl
theorem e_62_12 {ls : ab_L} {st : List Value} {w : ab_W} {v0 v1 v2 : Value} (h1 : ab_recv ab_mt 52 [v0, v1, v2] w.2 = true) (h8 : ab_w8 st = true) : ab_Run ab_mt 62 12 ls (v2 :: v1 :: v0 :: st) w = ab_aft 52 62 12 ls st (ab_Cl 52 [v0, v1, v2] w) := E_call3 rfl h1 h8
theorem e_62_15 {ls : ab_L} {st : List Value} {w : ab_W} {a : Nat} {x : Nat} (h : ab_isF 6 0 (w.2 a) = true) : ab_Run ab_mt 62 15 ls (.ref x :: .ref a :: st) w = ab_Run ab_mt 62 18 ls st (w.1, ab_up w.2 a (ab_sf 0 (.ref x) (w.2 a))) := E_put rfl h rfl
theorem e_62_18 {ls : ab_L} {w : ab_W} : ab_Run ab_mt 62 18 ls [] w = some (.inl none, w) := E_ret0 rfl
theorem rv_62 {σ : ab_S} {t : Nat} : ab_recv ab_mt 62 [.ref t] σ = ab_isO 6 (σ t) := rfl
