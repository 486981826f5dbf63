/-! the equations of runs, an instruction each: printed by wip/whole/gen_step.py -/
theorem e_61_0 {ls : ab_L} {st : List Value} {w : ab_W} (h : ab_isR (ls 0) = true) : ab_Run ab_mt 61 0 ls st w = ab_Run ab_mt 61 1 ls (ab_gv (ls 0) :: st) w := E_loadr (n := 1) rfl h
theorem e_61_1 {ls : ab_L} {st : List Value} {w : ab_W} {a : Nat} (h : ab_isF 1 0 (w.2 a) = true) : ab_Run ab_mt 61 1 ls (.ref a :: st) w = ab_Run ab_mt 61 4 ls (ab_fv 0 (w.2 a) :: st) w := E_get rfl h
theorem e_61_4 {ls : ab_L} {st : List Value} {w : ab_W} {a : Nat} (h : ab_isF 2 0 (w.2 a) = true) : ab_Run ab_mt 61 4 ls (.ref a :: st) w = ab_Run ab_mt 61 7 ls (ab_fv 0 (w.2 a) :: st) w := E_get rfl h
theorem e_61_7 {ls : ab_L} {st : List Value} {w : ab_W} (h : ab_isR (ls 0) = true) : ab_Run ab_mt 61 7 ls st w = ab_Run ab_mt 61 8 ls (ab_gv (ls 0) :: st) w := E_loadr (n := 1) rfl h
theorem e_61_8 {ls : ab_L} {st : List Value} {w : ab_W} (h : ab_isI (ls 1) = true) : ab_Run ab_mt 61 8 ls st w = ab_Run ab_mt 61 9 ls (ab_gv (ls 1) :: st) w := E_loadi (n := 1) rfl h
theorem e_61_9 {ls : ab_L} {st : List Value} {w : ab_W} {v0 v1 : Value} (h1 : ab_recv ab_mt 55 [v0, v1] w.2 = true) (h8 : ab_w8 st = true) : ab_Run ab_mt 61 9 ls (v1 :: v0 :: st) w = ab_aft 55 61 9 ls st (ab_Cl 55 [v0, v1] w) := E_call2 rfl h1 h8
theorem e_61_12 {ls : ab_L} {st : List Value} {w : ab_W} : ab_Run ab_mt 61 12 ls st w = ab_Run ab_mt 61 13 ls (.int (nI 4) :: st) w := E_push (n := 1) rfl
theorem e_61_13 {ls : ab_L} {st : List Value} {w : ab_W} {v0 v1 v2 : Value} (h1 : ab_recv ab_mt 75 [v0, v1, v2] w.2 = true) (h8 : ab_w8 st = true) : ab_Run ab_mt 61 13 ls (v2 :: v1 :: v0 :: st) w = ab_aft 75 61 13 ls st (ab_Cl 75 [v0, v1, v2] w) := E_call3 rfl h1 h8
theorem e_61_16 {ls : ab_L} {st : List Value} {w : ab_W} (h : ab_isR (ls 0) = true) : ab_Run ab_mt 61 16 ls st w = ab_Run ab_mt 61 17 ls (ab_gv (ls 0) :: st) w := E_loadr (n := 1) rfl h
theorem e_61_17 {ls : ab_L} {st : List Value} {w : ab_W} (h : ab_isI (ls 1) = true) : ab_Run ab_mt 61 17 ls st w = ab_Run ab_mt 61 18 ls (ab_gv (ls 1) :: st) w := E_loadi (n := 1) rfl h
theorem e_61_18 {ls : ab_L} {st : List Value} {w : ab_W} {v0 v1 : Value} (h1 : ab_recv ab_mt 56 [v0, v1] w.2 = true) (h8 : ab_w8 st = true) : ab_Run ab_mt 61 18 ls (v1 :: v0 :: st) w = ab_aft 56 61 18 ls st (ab_Cl 56 [v0, v1] w) := E_call2 rfl h1 h8
theorem e_61_21 {ls : ab_L} {st : List Value} {w : ab_W} {x y : Int32} : ab_Run ab_mt 61 21 ls (.int y :: .int x :: st) w = ab_Run ab_mt 61 22 ls (.int (x >>> (y &&& 31)) :: st) w := E_ib (f := fun x y => x >>> (y &&& 31)) rfl
theorem e_61_22 {ls : ab_L} {st : List Value} {w : ab_W} : ab_Run ab_mt 61 22 ls st w = ab_Run ab_mt 61 23 ls (.int (nI 1) :: st) w := E_push (n := 1) rfl
theorem e_61_23 {ls : ab_L} {st : List Value} {w : ab_W} {x y : Int32} : ab_Run ab_mt 61 23 ls (.int y :: .int x :: st) w = ab_Run ab_mt 61 24 ls (.int (x &&& y) :: st) w := E_ib (f := fun x y => x &&& y) rfl
theorem e_61_24 {ls : ab_L} {w : ab_W} {x : Int32} : ab_Run ab_mt 61 24 ls [.int x] w = some (.inl (some (.int x)), w) := E_reti rfl
theorem rv_61 {σ : ab_S} {t : Nat} {x0 : Int32} : ab_recv ab_mt 61 [.ref t, .int x0] σ = ab_isO 1 (σ t) := rfl
theorem e_62_0 {ls : ab_L} {st : List Value} {w : ab_W} (h : ab_isR (ls 0) = true) : ab_Run ab_mt 62 0 ls st w = ab_Run ab_mt 62 1 ls (ab_gv (ls 0) :: st) w := E_loadr (n := 1) rfl h
theorem e_62_1 {ls : ab_L} {st : List Value} {w : ab_W} {a : Nat} (h : ab_isF 1 0 (w.2 a) = true) : ab_Run ab_mt 62 1 ls (.ref a :: st) w = ab_Run ab_mt 62 4 ls (ab_fv 0 (w.2 a) :: st) w := E_get rfl h
theorem e_62_4 {ls : ab_L} {st : List Value} {w : ab_W} {a : Nat} (h : ab_isF 2 0 (w.2 a) = true) : ab_Run ab_mt 62 4 ls (.ref a :: st) w = ab_Run ab_mt 62 7 ls (ab_fv 0 (w.2 a) :: st) w := E_get rfl h
theorem e_62_7 {ls : ab_L} {st : List Value} {w : ab_W} (h : ab_isR (ls 0) = true) : ab_Run ab_mt 62 7 ls st w = ab_Run ab_mt 62 8 ls (ab_gv (ls 0) :: st) w := E_loadr (n := 1) rfl h
theorem e_62_8 {ls : ab_L} {st : List Value} {w : ab_W} (h : ab_isI (ls 1) = true) : ab_Run ab_mt 62 8 ls st w = ab_Run ab_mt 62 9 ls (ab_gv (ls 1) :: st) w := E_loadi (n := 1) rfl h
theorem e_62_9 {ls : ab_L} {st : List Value} {w : ab_W} {v0 v1 : Value} (h1 : ab_recv ab_mt 55 [v0, v1] w.2 = true) (h8 : ab_w8 st = true) : ab_Run ab_mt 62 9 ls (v1 :: v0 :: st) w = ab_aft 55 62 9 ls st (ab_Cl 55 [v0, v1] w) := E_call2 rfl h1 h8
theorem e_62_12 {ls : ab_L} {st : List Value} {w : ab_W} : ab_Run ab_mt 62 12 ls st w = ab_Run ab_mt 62 13 ls (.int (nI 1) :: st) w := E_push (n := 1) rfl
theorem e_62_13 {ls : ab_L} {st : List Value} {w : ab_W} {v0 v1 v2 : Value} (h1 : ab_recv ab_mt 75 [v0, v1, v2] w.2 = true) (h8 : ab_w8 st = true) : ab_Run ab_mt 62 13 ls (v2 :: v1 :: v0 :: st) w = ab_aft 75 62 13 ls st (ab_Cl 75 [v0, v1, v2] w) := E_call3 rfl h1 h8
theorem e_62_16 {ls : ab_L} {w : ab_W} {x : Int32} : ab_Run ab_mt 62 16 ls [.int x] w = some (.inl (some (.int x)), w) := E_reti rfl
theorem rv_62 {σ : ab_S} {t : Nat} {x0 : Int32} : ab_recv ab_mt 62 [.ref t, .int x0] σ = ab_isO 1 (σ t) := rfl
theorem e_63_0 {ls : ab_L} {st : List Value} {w : ab_W} (h : ab_isR (ls 0) = true) : ab_Run ab_mt 63 0 ls st w = ab_Run ab_mt 63 1 ls (ab_gv (ls 0) :: st) w := E_loadr (n := 1) rfl h
theorem e_63_1 {ls : ab_L} {st : List Value} {w : ab_W} (h : ab_isI (ls 1) = true) : ab_Run ab_mt 63 1 ls st w = ab_Run ab_mt 63 2 ls (ab_gv (ls 1) :: st) w := E_loadi (n := 1) rfl h
theorem e_63_2 {ls : ab_L} {st : List Value} {w : ab_W} {v0 v1 : Value} (h1 : ab_recv ab_mt 59 [v0, v1] w.2 = true) (h8 : ab_w8 st = true) : ab_Run ab_mt 63 2 ls (v1 :: v0 :: st) w = ab_aft 59 63 2 ls st (ab_Cl 59 [v0, v1] w) := E_call2 rfl h1 h8
theorem e_63_5 {ls : ab_L} {st : List Value} {w : ab_W} (h : ab_isR (ls 0) = true) : ab_Run ab_mt 63 5 ls st w = ab_Run ab_mt 63 6 ls (ab_gv (ls 0) :: st) w := E_loadr (n := 1) rfl h
theorem e_63_6 {ls : ab_L} {st : List Value} {w : ab_W} (h : ab_isI (ls 1) = true) : ab_Run ab_mt 63 6 ls st w = ab_Run ab_mt 63 7 ls (ab_gv (ls 1) :: st) w := E_loadi (n := 1) rfl h
theorem e_63_7 {ls : ab_L} {st : List Value} {w : ab_W} {v0 v1 : Value} (h1 : ab_recv ab_mt 60 [v0, v1] w.2 = true) (h8 : ab_w8 st = true) : ab_Run ab_mt 63 7 ls (v1 :: v0 :: st) w = ab_aft 60 63 7 ls st (ab_Cl 60 [v0, v1] w) := E_call2 rfl h1 h8
theorem e_63_10 {ls : ab_L} {st : List Value} {w : ab_W} (h : ab_isI (ls 2) = true) : ab_Run ab_mt 63 10 ls st w = ab_Run ab_mt 63 11 ls (ab_gv (ls 2) :: st) w := E_loadi (n := 1) rfl h
theorem e_63_11 {ls : ab_L} {st : List Value} {w : ab_W} {x : Int32} : ab_Run ab_mt 63 11 ls (.int x :: st) w = ab_Run ab_mt 63 12 ls (.long x.toInt64 :: st) w := E_i2l rfl
theorem e_63_12 {ls : ab_L} {st : List Value} {w : ab_W} {x y : Int64} : ab_Run ab_mt 63 12 ls (.long y :: .long x :: st) w = ab_Run ab_mt 63 13 ls (.long (x * y) :: st) w := E_lb (f := fun x y => x * y) rfl
theorem e_63_13 {ls : ab_L} {st : List Value} {w : ab_W} (h : ab_isR (ls 0) = true) : ab_Run ab_mt 63 13 ls st w = ab_Run ab_mt 63 14 ls (ab_gv (ls 0) :: st) w := E_loadr (n := 1) rfl h
theorem e_63_14 {ls : ab_L} {st : List Value} {w : ab_W} (h : ab_isI (ls 1) = true) : ab_Run ab_mt 63 14 ls st w = ab_Run ab_mt 63 15 ls (ab_gv (ls 1) :: st) w := E_loadi (n := 1) rfl h
theorem e_63_15 {ls : ab_L} {st : List Value} {w : ab_W} {v0 v1 : Value} (h1 : ab_recv ab_mt 62 [v0, v1] w.2 = true) (h8 : ab_w8 st = true) : ab_Run ab_mt 63 15 ls (v1 :: v0 :: st) w = ab_aft 62 63 15 ls st (ab_Cl 62 [v0, v1] w) := E_call2 rfl h1 h8
theorem e_63_18 {ls : ab_L} {st : List Value} {w : ab_W} {x : Int32} : ab_Run ab_mt 63 18 ls (.int x :: st) w = ab_Run ab_mt 63 19 ls (.long x.toInt64 :: st) w := E_i2l rfl
theorem e_63_19 {ls : ab_L} {st : List Value} {w : ab_W} {v0 v1 : Value} (h1 : ab_recv ab_mt 43 [v0, v1] w.2 = true) (h8 : ab_w8 st = true) : ab_Run ab_mt 63 19 ls (v1 :: v0 :: st) w = ab_aft 43 63 19 ls st (ab_Cl 43 [v0, v1] w) := E_call2 rfl h1 h8
theorem e_63_22 {ls : ab_L} {st : List Value} {w : ab_W} {x y : Int64} : ab_Run ab_mt 63 22 ls (.long y :: .long x :: st) w = ab_Run ab_mt 63 23 ls (.long (x + y) :: st) w := E_lb (f := fun x y => x + y) rfl
theorem e_63_23 {ls : ab_L} {w : ab_W} {x : Int64} : ab_Run ab_mt 63 23 ls [.long x] w = some (.inl (some (.long x)), w) := E_retl rfl
theorem rv_63 {σ : ab_S} {t : Nat} {x0 : Int32} {x1 : Int32} : ab_recv ab_mt 63 [.ref t, .int x0, .int x1] σ = ab_isO 1 (σ t) := rfl
theorem e_64_0 {ls : ab_L} {st : List Value} {w : ab_W} : ab_Run ab_mt 64 0 ls st w = ab_Run ab_mt 64 1 ls (.int (nI 0) :: st) w := E_push (n := 1) rfl
theorem e_64_1 {ls : ab_L} {st : List Value} {w : ab_W} {x : Int32} : ab_Run ab_mt 64 1 ls (.int x :: st) w = ab_Run ab_mt 64 2 (ab_l1 ls 3 (.int x)) st w := E_stori (n := 1) rfl
theorem e_64_2 {ls : ab_L} {st : List Value} {w : ab_W} (h : ab_isI (ls 3) = true) : ab_Run ab_mt 64 2 ls st w = ab_Run ab_mt 64 3 ls (ab_gv (ls 3) :: st) w := E_loadi (n := 1) rfl h
theorem e_64_3 {ls : ab_L} {st : List Value} {w : ab_W} : ab_Run ab_mt 64 3 ls st w = ab_Run ab_mt 64 4 ls (.int (nI 1) :: st) w := E_push (n := 1) rfl
theorem e_64_4 {ls : ab_L} {st : List Value} {w : ab_W} {x y : Int32} : ab_Run ab_mt 64 4 ls (.int y :: .int x :: st) w = ab_Run ab_mt 64 5 ls (.int (x + y) :: st) w := E_ib (f := fun x y => x + y) rfl
theorem e_64_5 {ls : ab_L} {st : List Value} {w : ab_W} (h : ab_isR (ls 0) = true) : ab_Run ab_mt 64 5 ls st w = ab_Run ab_mt 64 6 ls (ab_gv (ls 0) :: st) w := E_loadr (n := 1) rfl h
theorem e_64_6 {ls : ab_L} {st : List Value} {w : ab_W} {a : Nat} (h : ab_isF 1 6 (w.2 a) = true) : ab_Run ab_mt 64 6 ls (.ref a :: st) w = ab_Run ab_mt 64 9 ls (ab_fv 6 (w.2 a) :: st) w := E_get rfl h
theorem e_64_9 {ls : ab_L} {st : List Value} {w : ab_W} {x y : Int32} : ab_Run ab_mt 64 9 ls (.int y :: .int x :: st) w = if y ≤ x then ab_Run ab_mt 64 30 ls st w else ab_Run ab_mt 64 12 ls st w := E_ic_ge rfl
theorem e_64_12 {ls : ab_L} {st : List Value} {w : ab_W} (h : ab_isR (ls 0) = true) : ab_Run ab_mt 64 12 ls st w = ab_Run ab_mt 64 13 ls (ab_gv (ls 0) :: st) w := E_loadr (n := 1) rfl h
theorem e_64_13 {ls : ab_L} {st : List Value} {w : ab_W} (h : ab_isI (ls 3) = true) : ab_Run ab_mt 64 13 ls st w = ab_Run ab_mt 64 14 ls (ab_gv (ls 3) :: st) w := E_loadi (n := 1) rfl h
theorem e_64_14 {ls : ab_L} {st : List Value} {w : ab_W} : ab_Run ab_mt 64 14 ls st w = ab_Run ab_mt 64 15 ls (.int (nI 1) :: st) w := E_push (n := 1) rfl
theorem e_64_15 {ls : ab_L} {st : List Value} {w : ab_W} {x y : Int32} : ab_Run ab_mt 64 15 ls (.int y :: .int x :: st) w = ab_Run ab_mt 64 16 ls (.int (x + y) :: st) w := E_ib (f := fun x y => x + y) rfl
theorem e_64_16 {ls : ab_L} {st : List Value} {w : ab_W} {v0 v1 : Value} (h1 : ab_recv ab_mt 59 [v0, v1] w.2 = true) (h8 : ab_w8 st = true) : ab_Run ab_mt 64 16 ls (v1 :: v0 :: st) w = ab_aft 59 64 16 ls st (ab_Cl 59 [v0, v1] w) := E_call2 rfl h1 h8
theorem e_64_19 {ls : ab_L} {st : List Value} {w : ab_W} (h : ab_isL (ls 1) = true) (h2 : (ls 2).isNone = true) : ab_Run ab_mt 64 19 ls st w = ab_Run ab_mt 64 20 ls (ab_gv (ls 1) :: st) w := E_loadl (n := 1) rfl h h2
theorem e_64_20 {ls : ab_L} {st : List Value} {w : ab_W} {x y : Int64} : ab_Run ab_mt 64 20 ls (.long y :: .long x :: st) w = ab_Run ab_mt 64 21 ls (.int (lg_cmp x y) :: st) w := E_lcmp rfl
theorem e_64_21 {ls : ab_L} {st : List Value} {w : ab_W} {x : Int32} : ab_Run ab_mt 64 21 ls (.int x :: st) w = if 0 < x then ab_Run ab_mt 64 30 ls st w else ab_Run ab_mt 64 24 ls st w := E_if_gt rfl
theorem e_64_24 {ls : ab_L} {st : List Value} {w : ab_W} (h : ab_isI (ls 3) = true) : ab_Run ab_mt 64 24 ls st w = ab_Run ab_mt 64 27 (ab_l1 ls 3 (.int (ab_gi (ls 3) + (nI 1)))) st w := E_iinc rfl h
theorem e_64_27 {ls : ab_L} {st : List Value} {w : ab_W} : ab_Run ab_mt 64 27 ls st w = ab_Run ab_mt 64 2 ls st w := E_goto rfl
theorem e_64_30 {ls : ab_L} {st : List Value} {w : ab_W} (h : ab_isI (ls 3) = true) : ab_Run ab_mt 64 30 ls st w = ab_Run ab_mt 64 31 ls (ab_gv (ls 3) :: st) w := E_loadi (n := 1) rfl h
theorem e_64_31 {ls : ab_L} {w : ab_W} {x : Int32} : ab_Run ab_mt 64 31 ls [.int x] w = some (.inl (some (.int x)), w) := E_reti rfl
theorem rv_64 {σ : ab_S} {t : Nat} {x0 : Int64} : ab_recv ab_mt 64 [.ref t, .long x0] σ = ab_isO 1 (σ t) := rfl
theorem e_65_0 {ls : ab_L} {st : List Value} {w : ab_W} (h : ab_isR (ls 0) = true) : ab_Run ab_mt 65 0 ls st w = ab_Run ab_mt 65 1 ls (ab_gv (ls 0) :: st) w := E_loadr (n := 1) rfl h
theorem e_65_1 {ls : ab_L} {st : List Value} {w : ab_W} {a : Nat} (h : ab_isF 1 0 (w.2 a) = true) : ab_Run ab_mt 65 1 ls (.ref a :: st) w = ab_Run ab_mt 65 4 ls (ab_fv 0 (w.2 a) :: st) w := E_get rfl h
theorem e_65_4 {ls : ab_L} {st : List Value} {w : ab_W} {a : Nat} (h : ab_isF 2 2 (w.2 a) = true) : ab_Run ab_mt 65 4 ls (.ref a :: st) w = ab_Run ab_mt 65 7 ls (ab_fv 2 (w.2 a) :: st) w := E_get rfl h
theorem e_65_7 {ls : ab_L} {st : List Value} {w : ab_W} (h : ab_isI (ls 1) = true) : ab_Run ab_mt 65 7 ls st w = ab_Run ab_mt 65 8 ls (ab_gv (ls 1) :: st) w := E_loadi (n := 1) rfl h
theorem e_65_8 {ls : ab_L} {st : List Value} {w : ab_W} : ab_Run ab_mt 65 8 ls st w = ab_Run ab_mt 65 9 ls (.int (nI 0) :: st) w := E_push (n := 1) rfl
theorem e_65_9 {ls : ab_L} {st : List Value} {w : ab_W} {v0 v1 v2 : Value} (h1 : ab_recv ab_mt 75 [v0, v1, v2] w.2 = true) (h8 : ab_w8 st = true) : ab_Run ab_mt 65 9 ls (v2 :: v1 :: v0 :: st) w = ab_aft 75 65 9 ls st (ab_Cl 75 [v0, v1, v2] w) := E_call3 rfl h1 h8
theorem e_65_12 {ls : ab_L} {st : List Value} {w : ab_W} {x : Int32} : ab_Run ab_mt 65 12 ls (.int x :: st) w = ab_Run ab_mt 65 13 (ab_l1 ls 2 (.int x)) st w := E_stori (n := 1) rfl
theorem e_65_13 {ls : ab_L} {st : List Value} {w : ab_W} (h : ab_isR (ls 0) = true) : ab_Run ab_mt 65 13 ls st w = ab_Run ab_mt 65 14 ls (ab_gv (ls 0) :: st) w := E_loadr (n := 1) rfl h
theorem e_65_14 {ls : ab_L} {st : List Value} {w : ab_W} (h : ab_isI (ls 2) = true) : ab_Run ab_mt 65 14 ls st w = ab_Run ab_mt 65 15 ls (ab_gv (ls 2) :: st) w := E_loadi (n := 1) rfl h
theorem e_65_15 {ls : ab_L} {st : List Value} {w : ab_W} {v0 v1 : Value} (h1 : ab_recv ab_mt 59 [v0, v1] w.2 = true) (h8 : ab_w8 st = true) : ab_Run ab_mt 65 15 ls (v1 :: v0 :: st) w = ab_aft 59 65 15 ls st (ab_Cl 59 [v0, v1] w) := E_call2 rfl h1 h8
theorem e_65_18 {ls : ab_L} {st : List Value} {w : ab_W} (h : ab_isR (ls 0) = true) : ab_Run ab_mt 65 18 ls st w = ab_Run ab_mt 65 19 ls (ab_gv (ls 0) :: st) w := E_loadr (n := 1) rfl h
theorem e_65_19 {ls : ab_L} {st : List Value} {w : ab_W} (h : ab_isI (ls 2) = true) : ab_Run ab_mt 65 19 ls st w = ab_Run ab_mt 65 20 ls (ab_gv (ls 2) :: st) w := E_loadi (n := 1) rfl h
theorem e_65_20 {ls : ab_L} {st : List Value} {w : ab_W} {v0 v1 : Value} (h1 : ab_recv ab_mt 60 [v0, v1] w.2 = true) (h8 : ab_w8 st = true) : ab_Run ab_mt 65 20 ls (v1 :: v0 :: st) w = ab_aft 60 65 20 ls st (ab_Cl 60 [v0, v1] w) := E_call2 rfl h1 h8
theorem e_65_23 {ls : ab_L} {st : List Value} {w : ab_W} (h : ab_isR (ls 0) = true) : ab_Run ab_mt 65 23 ls st w = ab_Run ab_mt 65 24 ls (ab_gv (ls 0) :: st) w := E_loadr (n := 1) rfl h
theorem e_65_24 {ls : ab_L} {st : List Value} {w : ab_W} {a : Nat} (h : ab_isF 1 0 (w.2 a) = true) : ab_Run ab_mt 65 24 ls (.ref a :: st) w = ab_Run ab_mt 65 27 ls (ab_fv 0 (w.2 a) :: st) w := E_get rfl h
theorem e_65_27 {ls : ab_L} {st : List Value} {w : ab_W} {a : Nat} (h : ab_isF 2 2 (w.2 a) = true) : ab_Run ab_mt 65 27 ls (.ref a :: st) w = ab_Run ab_mt 65 30 ls (ab_fv 2 (w.2 a) :: st) w := E_get rfl h
theorem e_65_30 {ls : ab_L} {st : List Value} {w : ab_W} (h : ab_isI (ls 1) = true) : ab_Run ab_mt 65 30 ls st w = ab_Run ab_mt 65 31 ls (ab_gv (ls 1) :: st) w := E_loadi (n := 1) rfl h
theorem e_65_31 {ls : ab_L} {st : List Value} {w : ab_W} : ab_Run ab_mt 65 31 ls st w = ab_Run ab_mt 65 32 ls (.int (nI 1) :: st) w := E_push (n := 1) rfl
theorem e_65_32 {ls : ab_L} {st : List Value} {w : ab_W} {v0 v1 v2 : Value} (h1 : ab_recv ab_mt 75 [v0, v1, v2] w.2 = true) (h8 : ab_w8 st = true) : ab_Run ab_mt 65 32 ls (v2 :: v1 :: v0 :: st) w = ab_aft 75 65 32 ls st (ab_Cl 75 [v0, v1, v2] w) := E_call3 rfl h1 h8
theorem e_65_35 {ls : ab_L} {st : List Value} {w : ab_W} {x : Int32} : ab_Run ab_mt 65 35 ls (.int x :: st) w = ab_Run ab_mt 65 36 ls (.long x.toInt64 :: st) w := E_i2l rfl
theorem e_65_36 {ls : ab_L} {st : List Value} {w : ab_W} {x y : Int64} : ab_Run ab_mt 65 36 ls (.long y :: .long x :: st) w = ab_Run ab_mt 65 37 ls (.long (x * y) :: st) w := E_lb (f := fun x y => x * y) rfl
theorem e_65_37 {ls : ab_L} {st : List Value} {w : ab_W} : ab_Run ab_mt 65 37 ls st w = ab_Run ab_mt 65 40 ls (.long (lN 480) :: st) w := E_push (n := 3) rfl
theorem e_65_40 {ls : ab_L} {st : List Value} {w : ab_W} {v0 v1 : Value} (h1 : ab_recv ab_mt 43 [v0, v1] w.2 = true) (h8 : ab_w8 st = true) : ab_Run ab_mt 65 40 ls (v1 :: v0 :: st) w = ab_aft 43 65 40 ls st (ab_Cl 43 [v0, v1] w) := E_call2 rfl h1 h8
theorem e_65_43 {ls : ab_L} {st : List Value} {w : ab_W} {x y : Int64} : ab_Run ab_mt 65 43 ls (.long y :: .long x :: st) w = ab_Run ab_mt 65 44 ls (.long (x + y) :: st) w := E_lb (f := fun x y => x + y) rfl
theorem e_65_44 {ls : ab_L} {w : ab_W} {x : Int64} : ab_Run ab_mt 65 44 ls [.long x] w = some (.inl (some (.long x)), w) := E_retl rfl
theorem rv_65 {σ : ab_S} {t : Nat} {x0 : Int32} : ab_recv ab_mt 65 [.ref t, .int x0] σ = ab_isO 1 (σ t) := rfl
theorem e_66_0 {ls : ab_L} {st : List Value} {w : ab_W} (h : ab_isR (ls 0) = true) : ab_Run ab_mt 66 0 ls st w = ab_Run ab_mt 66 1 ls (ab_gv (ls 0) :: st) w := E_loadr (n := 1) rfl h
theorem e_66_1 {ls : ab_L} {st : List Value} {w : ab_W} (h : ab_isI (ls 1) = true) : ab_Run ab_mt 66 1 ls st w = ab_Run ab_mt 66 2 ls (ab_gv (ls 1) :: st) w := E_loadi (n := 1) rfl h
theorem e_66_2 {ls : ab_L} {st : List Value} {w : ab_W} {v0 v1 : Value} (h1 : ab_recv ab_mt 65 [v0, v1] w.2 = true) (h8 : ab_w8 st = true) : ab_Run ab_mt 66 2 ls (v1 :: v0 :: st) w = ab_aft 65 66 2 ls st (ab_Cl 65 [v0, v1] w) := E_call2 rfl h1 h8
theorem e_66_5 {ls : ab_L} {st : List Value} {w : ab_W} {x : Int64} : ab_Run ab_mt 66 5 ls (.long x :: st) w = ab_Run ab_mt 66 6 (ab_l2 ls 2 (.long x)) st w := E_storl (n := 1) rfl
theorem e_66_6 {ls : ab_L} {st : List Value} {w : ab_W} : ab_Run ab_mt 66 6 ls st w = ab_Run ab_mt 66 7 ls (.long (lN 0) :: st) w := E_push (n := 1) rfl
theorem e_66_7 {ls : ab_L} {st : List Value} {w : ab_W} {x : Int64} : ab_Run ab_mt 66 7 ls (.long x :: st) w = ab_Run ab_mt 66 9 (ab_l2 ls 4 (.long x)) st w := E_storl (n := 2) rfl
theorem e_66_9 {ls : ab_L} {st : List Value} {w : ab_W} : ab_Run ab_mt 66 9 ls st w = ab_Run ab_mt 66 10 ls (.int (nI 0) :: st) w := E_push (n := 1) rfl
theorem e_66_10 {ls : ab_L} {st : List Value} {w : ab_W} {x : Int32} : ab_Run ab_mt 66 10 ls (.int x :: st) w = ab_Run ab_mt 66 12 (ab_l1 ls 6 (.int x)) st w := E_stori (n := 2) rfl
theorem e_66_12 {ls : ab_L} {st : List Value} {w : ab_W} (h : ab_isI (ls 6) = true) : ab_Run ab_mt 66 12 ls st w = ab_Run ab_mt 66 14 ls (ab_gv (ls 6) :: st) w := E_loadi (n := 2) rfl h
theorem e_66_14 {ls : ab_L} {st : List Value} {w : ab_W} (h : ab_isR (ls 0) = true) : ab_Run ab_mt 66 14 ls st w = ab_Run ab_mt 66 15 ls (ab_gv (ls 0) :: st) w := E_loadr (n := 1) rfl h
theorem e_66_15 {ls : ab_L} {st : List Value} {w : ab_W} {a : Nat} (h : ab_isF 1 0 (w.2 a) = true) : ab_Run ab_mt 66 15 ls (.ref a :: st) w = ab_Run ab_mt 66 18 ls (ab_fv 0 (w.2 a) :: st) w := E_get rfl h
theorem e_66_18 {ls : ab_L} {st : List Value} {w : ab_W} {a : Nat} (h : ab_isF 2 2 (w.2 a) = true) : ab_Run ab_mt 66 18 ls (.ref a :: st) w = ab_Run ab_mt 66 21 ls (ab_fv 2 (w.2 a) :: st) w := E_get rfl h
theorem e_66_21 {ls : ab_L} {st : List Value} {w : ab_W} {a : Nat} (h : ab_isF 3 3 (w.2 a) = true) : ab_Run ab_mt 66 21 ls (.ref a :: st) w = ab_Run ab_mt 66 24 ls (ab_fv 3 (w.2 a) :: st) w := E_get rfl h
theorem e_66_24 {ls : ab_L} {st : List Value} {w : ab_W} {x y : Int32} : ab_Run ab_mt 66 24 ls (.int y :: .int x :: st) w = if y ≤ x then ab_Run ab_mt 66 67 ls st w else ab_Run ab_mt 66 27 ls st w := E_ic_ge rfl
theorem e_66_27 {ls : ab_L} {st : List Value} {w : ab_W} (h : ab_isR (ls 0) = true) : ab_Run ab_mt 66 27 ls st w = ab_Run ab_mt 66 28 ls (ab_gv (ls 0) :: st) w := E_loadr (n := 1) rfl h
theorem e_66_28 {ls : ab_L} {st : List Value} {w : ab_W} (h : ab_isI (ls 6) = true) : ab_Run ab_mt 66 28 ls st w = ab_Run ab_mt 66 30 ls (ab_gv (ls 6) :: st) w := E_loadi (n := 2) rfl h
theorem e_66_30 {ls : ab_L} {st : List Value} {w : ab_W} {v0 v1 : Value} (h1 : ab_recv ab_mt 65 [v0, v1] w.2 = true) (h8 : ab_w8 st = true) : ab_Run ab_mt 66 30 ls (v1 :: v0 :: st) w = ab_aft 65 66 30 ls st (ab_Cl 65 [v0, v1] w) := E_call2 rfl h1 h8
theorem e_66_33 {ls : ab_L} {st : List Value} {w : ab_W} {x : Int64} : ab_Run ab_mt 66 33 ls (.long x :: st) w = ab_Run ab_mt 66 35 (ab_l2 ls 7 (.long x)) st w := E_storl (n := 2) rfl
theorem e_66_35 {ls : ab_L} {st : List Value} {w : ab_W} (h : ab_isL (ls 7) = true) (h2 : (ls 8).isNone = true) : ab_Run ab_mt 66 35 ls st w = ab_Run ab_mt 66 37 ls (ab_gv (ls 7) :: st) w := E_loadl (n := 2) rfl h h2
theorem e_66_37 {ls : ab_L} {st : List Value} {w : ab_W} (h : ab_isL (ls 2) = true) (h2 : (ls 3).isNone = true) : ab_Run ab_mt 66 37 ls st w = ab_Run ab_mt 66 38 ls (ab_gv (ls 2) :: st) w := E_loadl (n := 1) rfl h h2
theorem e_66_38 {ls : ab_L} {st : List Value} {w : ab_W} {x y : Int64} : ab_Run ab_mt 66 38 ls (.long y :: .long x :: st) w = ab_Run ab_mt 66 39 ls (.int (lg_cmp x y) :: st) w := E_lcmp rfl
theorem e_66_39 {ls : ab_L} {st : List Value} {w : ab_W} {x : Int32} : ab_Run ab_mt 66 39 ls (.int x :: st) w = if x < 0 then ab_Run ab_mt 66 55 ls st w else ab_Run ab_mt 66 42 ls st w := E_if_lt rfl
theorem e_66_42 {ls : ab_L} {st : List Value} {w : ab_W} (h : ab_isL (ls 7) = true) (h2 : (ls 8).isNone = true) : ab_Run ab_mt 66 42 ls st w = ab_Run ab_mt 66 44 ls (ab_gv (ls 7) :: st) w := E_loadl (n := 2) rfl h h2
theorem e_66_44 {ls : ab_L} {st : List Value} {w : ab_W} (h : ab_isL (ls 2) = true) (h2 : (ls 3).isNone = true) : ab_Run ab_mt 66 44 ls st w = ab_Run ab_mt 66 45 ls (ab_gv (ls 2) :: st) w := E_loadl (n := 1) rfl h h2
theorem e_66_45 {ls : ab_L} {st : List Value} {w : ab_W} {x y : Int64} : ab_Run ab_mt 66 45 ls (.long y :: .long x :: st) w = ab_Run ab_mt 66 46 ls (.int (lg_cmp x y) :: st) w := E_lcmp rfl
theorem e_66_46 {ls : ab_L} {st : List Value} {w : ab_W} {x : Int32} : ab_Run ab_mt 66 46 ls (.int x :: st) w = if x = 0 then ab_Run ab_mt 66 49 ls st w else ab_Run ab_mt 66 61 ls st w := E_if_ne rfl
theorem e_66_49 {ls : ab_L} {st : List Value} {w : ab_W} (h : ab_isI (ls 6) = true) : ab_Run ab_mt 66 49 ls st w = ab_Run ab_mt 66 51 ls (ab_gv (ls 6) :: st) w := E_loadi (n := 2) rfl h
theorem e_66_51 {ls : ab_L} {st : List Value} {w : ab_W} (h : ab_isI (ls 1) = true) : ab_Run ab_mt 66 51 ls st w = ab_Run ab_mt 66 52 ls (ab_gv (ls 1) :: st) w := E_loadi (n := 1) rfl h
theorem e_66_52 {ls : ab_L} {st : List Value} {w : ab_W} {x y : Int32} : ab_Run ab_mt 66 52 ls (.int y :: .int x :: st) w = if y ≤ x then ab_Run ab_mt 66 61 ls st w else ab_Run ab_mt 66 55 ls st w := E_ic_ge rfl
theorem e_66_55 {ls : ab_L} {st : List Value} {w : ab_W} (h : ab_isL (ls 4) = true) (h2 : (ls 5).isNone = true) : ab_Run ab_mt 66 55 ls st w = ab_Run ab_mt 66 57 ls (ab_gv (ls 4) :: st) w := E_loadl (n := 2) rfl h h2
theorem e_66_57 {ls : ab_L} {st : List Value} {w : ab_W} : ab_Run ab_mt 66 57 ls st w = ab_Run ab_mt 66 58 ls (.long (lN 1) :: st) w := E_push (n := 1) rfl
theorem e_66_58 {ls : ab_L} {st : List Value} {w : ab_W} {x y : Int64} : ab_Run ab_mt 66 58 ls (.long y :: .long x :: st) w = ab_Run ab_mt 66 59 ls (.long (x + y) :: st) w := E_lb (f := fun x y => x + y) rfl
theorem e_66_59 {ls : ab_L} {st : List Value} {w : ab_W} {x : Int64} : ab_Run ab_mt 66 59 ls (.long x :: st) w = ab_Run ab_mt 66 61 (ab_l2 ls 4 (.long x)) st w := E_storl (n := 2) rfl
theorem e_66_61 {ls : ab_L} {st : List Value} {w : ab_W} (h : ab_isI (ls 6) = true) : ab_Run ab_mt 66 61 ls st w = ab_Run ab_mt 66 64 (ab_l1 ls 6 (.int (ab_gi (ls 6) + (nI 1)))) st w := E_iinc rfl h
theorem e_66_64 {ls : ab_L} {st : List Value} {w : ab_W} : ab_Run ab_mt 66 64 ls st w = ab_Run ab_mt 66 12 ls st w := E_goto rfl
theorem e_66_67 {ls : ab_L} {st : List Value} {w : ab_W} (h : ab_isL (ls 4) = true) (h2 : (ls 5).isNone = true) : ab_Run ab_mt 66 67 ls st w = ab_Run ab_mt 66 69 ls (ab_gv (ls 4) :: st) w := E_loadl (n := 2) rfl h h2
theorem e_66_69 {ls : ab_L} {w : ab_W} {x : Int64} : ab_Run ab_mt 66 69 ls [.long x] w = some (.inl (some (.long x)), w) := E_retl rfl
theorem rv_66 {σ : ab_S} {t : Nat} {x0 : Int32} : ab_recv ab_mt 66 [.ref t, .int x0] σ = ab_isO 1 (σ t) := rfl
theorem e_67_0 {ls : ab_L} {st : List Value} {w : ab_W} : ab_Run ab_mt 67 0 ls st w = ab_Run ab_mt 67 1 ls (.long (lN 0) :: st) w := E_push (n := 1) rfl
theorem e_67_1 {ls : ab_L} {st : List Value} {w : ab_W} {x : Int64} : ab_Run ab_mt 67 1 ls (.long x :: st) w = ab_Run ab_mt 67 2 (ab_l2 ls 1 (.long x)) st w := E_storl (n := 1) rfl
theorem e_67_2 {ls : ab_L} {st : List Value} {w : ab_W} : ab_Run ab_mt 67 2 ls st w = ab_Run ab_mt 67 3 ls (.int (nI 0) :: st) w := E_push (n := 1) rfl
theorem e_67_3 {ls : ab_L} {st : List Value} {w : ab_W} {x : Int32} : ab_Run ab_mt 67 3 ls (.int x :: st) w = ab_Run ab_mt 67 4 (ab_l1 ls 3 (.int x)) st w := E_stori (n := 1) rfl
theorem e_67_4 {ls : ab_L} {st : List Value} {w : ab_W} (h : ab_isI (ls 3) = true) : ab_Run ab_mt 67 4 ls st w = ab_Run ab_mt 67 5 ls (ab_gv (ls 3) :: st) w := E_loadi (n := 1) rfl h
theorem e_67_5 {ls : ab_L} {st : List Value} {w : ab_W} (h : ab_isR (ls 0) = true) : ab_Run ab_mt 67 5 ls st w = ab_Run ab_mt 67 6 ls (ab_gv (ls 0) :: st) w := E_loadr (n := 1) rfl h
theorem e_67_6 {ls : ab_L} {st : List Value} {w : ab_W} {a : Nat} (h : ab_isF 1 0 (w.2 a) = true) : ab_Run ab_mt 67 6 ls (.ref a :: st) w = ab_Run ab_mt 67 9 ls (ab_fv 0 (w.2 a) :: st) w := E_get rfl h
theorem e_67_9 {ls : ab_L} {st : List Value} {w : ab_W} {a : Nat} (h : ab_isF 2 0 (w.2 a) = true) : ab_Run ab_mt 67 9 ls (.ref a :: st) w = ab_Run ab_mt 67 12 ls (ab_fv 0 (w.2 a) :: st) w := E_get rfl h
theorem e_67_12 {ls : ab_L} {st : List Value} {w : ab_W} {a : Nat} (h : ab_isF 3 3 (w.2 a) = true) : ab_Run ab_mt 67 12 ls (.ref a :: st) w = ab_Run ab_mt 67 15 ls (ab_fv 3 (w.2 a) :: st) w := E_get rfl h
theorem e_67_15 {ls : ab_L} {st : List Value} {w : ab_W} {x y : Int32} : ab_Run ab_mt 67 15 ls (.int y :: .int x :: st) w = if y ≤ x then ab_Run ab_mt 67 53 ls st w else ab_Run ab_mt 67 18 ls st w := E_ic_ge rfl
theorem e_67_18 {ls : ab_L} {st : List Value} {w : ab_W} (h : ab_isL (ls 1) = true) (h2 : (ls 2).isNone = true) : ab_Run ab_mt 67 18 ls st w = ab_Run ab_mt 67 19 ls (ab_gv (ls 1) :: st) w := E_loadl (n := 1) rfl h h2
theorem e_67_19 {ls : ab_L} {st : List Value} {w : ab_W} (h : ab_isR (ls 0) = true) : ab_Run ab_mt 67 19 ls st w = ab_Run ab_mt 67 20 ls (ab_gv (ls 0) :: st) w := E_loadr (n := 1) rfl h
theorem e_67_20 {ls : ab_L} {st : List Value} {w : ab_W} {a : Nat} (h : ab_isF 1 0 (w.2 a) = true) : ab_Run ab_mt 67 20 ls (.ref a :: st) w = ab_Run ab_mt 67 23 ls (ab_fv 0 (w.2 a) :: st) w := E_get rfl h
theorem e_67_23 {ls : ab_L} {st : List Value} {w : ab_W} {a : Nat} (h : ab_isF 2 0 (w.2 a) = true) : ab_Run ab_mt 67 23 ls (.ref a :: st) w = ab_Run ab_mt 67 26 ls (ab_fv 0 (w.2 a) :: st) w := E_get rfl h
theorem e_67_26 {ls : ab_L} {st : List Value} {w : ab_W} (h : ab_isI (ls 3) = true) : ab_Run ab_mt 67 26 ls st w = ab_Run ab_mt 67 27 ls (ab_gv (ls 3) :: st) w := E_loadi (n := 1) rfl h
theorem e_67_27 {ls : ab_L} {st : List Value} {w : ab_W} : ab_Run ab_mt 67 27 ls st w = ab_Run ab_mt 67 28 ls (.int (nI 0) :: st) w := E_push (n := 1) rfl
theorem e_67_28 {ls : ab_L} {st : List Value} {w : ab_W} {v0 v1 v2 : Value} (h1 : ab_recv ab_mt 75 [v0, v1, v2] w.2 = true) (h8 : ab_w8 st = true) : ab_Run ab_mt 67 28 ls (v2 :: v1 :: v0 :: st) w = ab_aft 75 67 28 ls st (ab_Cl 75 [v0, v1, v2] w) := E_call3 rfl h1 h8
theorem e_67_31 {ls : ab_L} {st : List Value} {w : ab_W} (h : ab_isR (ls 0) = true) : ab_Run ab_mt 67 31 ls st w = ab_Run ab_mt 67 32 ls (ab_gv (ls 0) :: st) w := E_loadr (n := 1) rfl h
theorem e_67_32 {ls : ab_L} {st : List Value} {w : ab_W} {a : Nat} (h : ab_isF 1 0 (w.2 a) = true) : ab_Run ab_mt 67 32 ls (.ref a :: st) w = ab_Run ab_mt 67 35 ls (ab_fv 0 (w.2 a) :: st) w := E_get rfl h
theorem e_67_35 {ls : ab_L} {st : List Value} {w : ab_W} {a : Nat} (h : ab_isF 2 0 (w.2 a) = true) : ab_Run ab_mt 67 35 ls (.ref a :: st) w = ab_Run ab_mt 67 38 ls (ab_fv 0 (w.2 a) :: st) w := E_get rfl h
theorem e_67_38 {ls : ab_L} {st : List Value} {w : ab_W} (h : ab_isI (ls 3) = true) : ab_Run ab_mt 67 38 ls st w = ab_Run ab_mt 67 39 ls (ab_gv (ls 3) :: st) w := E_loadi (n := 1) rfl h
theorem e_67_39 {ls : ab_L} {st : List Value} {w : ab_W} : ab_Run ab_mt 67 39 ls st w = ab_Run ab_mt 67 40 ls (.int (nI 1) :: st) w := E_push (n := 1) rfl
theorem e_67_40 {ls : ab_L} {st : List Value} {w : ab_W} {v0 v1 v2 : Value} (h1 : ab_recv ab_mt 75 [v0, v1, v2] w.2 = true) (h8 : ab_w8 st = true) : ab_Run ab_mt 67 40 ls (v2 :: v1 :: v0 :: st) w = ab_aft 75 67 40 ls st (ab_Cl 75 [v0, v1, v2] w) := E_call3 rfl h1 h8
theorem e_67_43 {ls : ab_L} {st : List Value} {w : ab_W} {x y : Int32} : ab_Run ab_mt 67 43 ls (.int y :: .int x :: st) w = ab_Run ab_mt 67 44 ls (.int (x * y) :: st) w := E_ib (f := fun x y => x * y) rfl
theorem e_67_44 {ls : ab_L} {st : List Value} {w : ab_W} {x : Int32} : ab_Run ab_mt 67 44 ls (.int x :: st) w = ab_Run ab_mt 67 45 ls (.long x.toInt64 :: st) w := E_i2l rfl
theorem e_67_45 {ls : ab_L} {st : List Value} {w : ab_W} {x y : Int64} : ab_Run ab_mt 67 45 ls (.long y :: .long x :: st) w = ab_Run ab_mt 67 46 ls (.long (x + y) :: st) w := E_lb (f := fun x y => x + y) rfl
theorem e_67_46 {ls : ab_L} {st : List Value} {w : ab_W} {x : Int64} : ab_Run ab_mt 67 46 ls (.long x :: st) w = ab_Run ab_mt 67 47 (ab_l2 ls 1 (.long x)) st w := E_storl (n := 1) rfl
theorem e_67_47 {ls : ab_L} {st : List Value} {w : ab_W} (h : ab_isI (ls 3) = true) : ab_Run ab_mt 67 47 ls st w = ab_Run ab_mt 67 50 (ab_l1 ls 3 (.int (ab_gi (ls 3) + (nI 1)))) st w := E_iinc rfl h
theorem e_67_50 {ls : ab_L} {st : List Value} {w : ab_W} : ab_Run ab_mt 67 50 ls st w = ab_Run ab_mt 67 4 ls st w := E_goto rfl
theorem e_67_53 {ls : ab_L} {st : List Value} {w : ab_W} (h : ab_isL (ls 1) = true) (h2 : (ls 2).isNone = true) : ab_Run ab_mt 67 53 ls st w = ab_Run ab_mt 67 54 ls (ab_gv (ls 1) :: st) w := E_loadl (n := 1) rfl h h2
theorem e_67_54 {ls : ab_L} {w : ab_W} {x : Int64} : ab_Run ab_mt 67 54 ls [.long x] w = some (.inl (some (.long x)), w) := E_retl rfl
theorem rv_67 {σ : ab_S} {t : Nat} : ab_recv ab_mt 67 [.ref t] σ = ab_isO 1 (σ t) := rfl
theorem e_68_0 {ls : ab_L} {st : List Value} {w : ab_W} : ab_Run ab_mt 68 0 ls st w = ab_Run ab_mt 68 1 ls (.long (lN 0) :: st) w := E_push (n := 1) rfl
theorem e_68_1 {ls : ab_L} {st : List Value} {w : ab_W} {x : Int64} : ab_Run ab_mt 68 1 ls (.long x :: st) w = ab_Run ab_mt 68 2 (ab_l2 ls 1 (.long x)) st w := E_storl (n := 1) rfl
theorem e_68_2 {ls : ab_L} {st : List Value} {w : ab_W} : ab_Run ab_mt 68 2 ls st w = ab_Run ab_mt 68 3 ls (.int (nI 0) :: st) w := E_push (n := 1) rfl
theorem e_68_3 {ls : ab_L} {st : List Value} {w : ab_W} {x : Int32} : ab_Run ab_mt 68 3 ls (.int x :: st) w = ab_Run ab_mt 68 4 (ab_l1 ls 3 (.int x)) st w := E_stori (n := 1) rfl
theorem e_68_4 {ls : ab_L} {st : List Value} {w : ab_W} (h : ab_isI (ls 3) = true) : ab_Run ab_mt 68 4 ls st w = ab_Run ab_mt 68 5 ls (ab_gv (ls 3) :: st) w := E_loadi (n := 1) rfl h
theorem e_68_5 {ls : ab_L} {st : List Value} {w : ab_W} (h : ab_isR (ls 0) = true) : ab_Run ab_mt 68 5 ls st w = ab_Run ab_mt 68 6 ls (ab_gv (ls 0) :: st) w := E_loadr (n := 1) rfl h
theorem e_68_6 {ls : ab_L} {st : List Value} {w : ab_W} {a : Nat} (h : ab_isF 1 0 (w.2 a) = true) : ab_Run ab_mt 68 6 ls (.ref a :: st) w = ab_Run ab_mt 68 9 ls (ab_fv 0 (w.2 a) :: st) w := E_get rfl h
theorem e_68_9 {ls : ab_L} {st : List Value} {w : ab_W} {a : Nat} (h : ab_isF 2 0 (w.2 a) = true) : ab_Run ab_mt 68 9 ls (.ref a :: st) w = ab_Run ab_mt 68 12 ls (ab_fv 0 (w.2 a) :: st) w := E_get rfl h
theorem e_68_12 {ls : ab_L} {st : List Value} {w : ab_W} {a : Nat} (h : ab_isF 3 3 (w.2 a) = true) : ab_Run ab_mt 68 12 ls (.ref a :: st) w = ab_Run ab_mt 68 15 ls (ab_fv 3 (w.2 a) :: st) w := E_get rfl h
theorem e_68_15 {ls : ab_L} {st : List Value} {w : ab_W} {x y : Int32} : ab_Run ab_mt 68 15 ls (.int y :: .int x :: st) w = if y ≤ x then ab_Run ab_mt 68 44 ls st w else ab_Run ab_mt 68 18 ls st w := E_ic_ge rfl
theorem e_68_18 {ls : ab_L} {st : List Value} {w : ab_W} (h : ab_isL (ls 1) = true) (h2 : (ls 2).isNone = true) : ab_Run ab_mt 68 18 ls st w = ab_Run ab_mt 68 19 ls (ab_gv (ls 1) :: st) w := E_loadl (n := 1) rfl h h2
theorem e_68_19 {ls : ab_L} {st : List Value} {w : ab_W} (h : ab_isR (ls 0) = true) : ab_Run ab_mt 68 19 ls st w = ab_Run ab_mt 68 20 ls (ab_gv (ls 0) :: st) w := E_loadr (n := 1) rfl h
theorem e_68_20 {ls : ab_L} {st : List Value} {w : ab_W} {a : Nat} (h : ab_isF 1 0 (w.2 a) = true) : ab_Run ab_mt 68 20 ls (.ref a :: st) w = ab_Run ab_mt 68 23 ls (ab_fv 0 (w.2 a) :: st) w := E_get rfl h
theorem e_68_23 {ls : ab_L} {st : List Value} {w : ab_W} {a : Nat} (h : ab_isF 2 0 (w.2 a) = true) : ab_Run ab_mt 68 23 ls (.ref a :: st) w = ab_Run ab_mt 68 26 ls (ab_fv 0 (w.2 a) :: st) w := E_get rfl h
theorem e_68_26 {ls : ab_L} {st : List Value} {w : ab_W} (h : ab_isI (ls 3) = true) : ab_Run ab_mt 68 26 ls st w = ab_Run ab_mt 68 27 ls (ab_gv (ls 3) :: st) w := E_loadi (n := 1) rfl h
theorem e_68_27 {ls : ab_L} {st : List Value} {w : ab_W} : ab_Run ab_mt 68 27 ls st w = ab_Run ab_mt 68 28 ls (.int (nI 3) :: st) w := E_push (n := 1) rfl
theorem e_68_28 {ls : ab_L} {st : List Value} {w : ab_W} {v0 v1 v2 : Value} (h1 : ab_recv ab_mt 75 [v0, v1, v2] w.2 = true) (h8 : ab_w8 st = true) : ab_Run ab_mt 68 28 ls (v2 :: v1 :: v0 :: st) w = ab_aft 75 68 28 ls st (ab_Cl 75 [v0, v1, v2] w) := E_call3 rfl h1 h8
theorem e_68_31 {ls : ab_L} {st : List Value} {w : ab_W} {x : Int32} : ab_Run ab_mt 68 31 ls (.int x :: st) w = ab_Run ab_mt 68 32 ls (.long x.toInt64 :: st) w := E_i2l rfl
theorem e_68_32 {ls : ab_L} {st : List Value} {w : ab_W} : ab_Run ab_mt 68 32 ls st w = ab_Run ab_mt 68 35 ls (.long (lN 1000) :: st) w := E_push (n := 3) rfl
theorem e_68_35 {ls : ab_L} {st : List Value} {w : ab_W} {x y : Int64} : ab_Run ab_mt 68 35 ls (.long y :: .long x :: st) w = ab_Run ab_mt 68 36 ls (.long (x * y) :: st) w := E_lb (f := fun x y => x * y) rfl
theorem e_68_36 {ls : ab_L} {st : List Value} {w : ab_W} {x y : Int64} : ab_Run ab_mt 68 36 ls (.long y :: .long x :: st) w = ab_Run ab_mt 68 37 ls (.long (x + y) :: st) w := E_lb (f := fun x y => x + y) rfl
theorem e_68_37 {ls : ab_L} {st : List Value} {w : ab_W} {x : Int64} : ab_Run ab_mt 68 37 ls (.long x :: st) w = ab_Run ab_mt 68 38 (ab_l2 ls 1 (.long x)) st w := E_storl (n := 1) rfl
theorem e_68_38 {ls : ab_L} {st : List Value} {w : ab_W} (h : ab_isI (ls 3) = true) : ab_Run ab_mt 68 38 ls st w = ab_Run ab_mt 68 41 (ab_l1 ls 3 (.int (ab_gi (ls 3) + (nI 1)))) st w := E_iinc rfl h
theorem e_68_41 {ls : ab_L} {st : List Value} {w : ab_W} : ab_Run ab_mt 68 41 ls st w = ab_Run ab_mt 68 4 ls st w := E_goto rfl
theorem e_68_44 {ls : ab_L} {st : List Value} {w : ab_W} (h : ab_isL (ls 1) = true) (h2 : (ls 2).isNone = true) : ab_Run ab_mt 68 44 ls st w = ab_Run ab_mt 68 45 ls (ab_gv (ls 1) :: st) w := E_loadl (n := 1) rfl h h2
theorem e_68_45 {ls : ab_L} {w : ab_W} {x : Int64} : ab_Run ab_mt 68 45 ls [.long x] w = some (.inl (some (.long x)), w) := E_retl rfl
theorem rv_68 {σ : ab_S} {t : Nat} : ab_recv ab_mt 68 [.ref t] σ = ab_isO 1 (σ t) := rfl
theorem e_69_0 {ls : ab_L} {st : List Value} {w : ab_W} : ab_Run ab_mt 69 0 ls st w = ab_Run ab_mt 69 1 ls (.long (lN 0) :: st) w := E_push (n := 1) rfl
theorem e_69_1 {ls : ab_L} {st : List Value} {w : ab_W} {x : Int64} : ab_Run ab_mt 69 1 ls (.long x :: st) w = ab_Run ab_mt 69 2 (ab_l2 ls 2 (.long x)) st w := E_storl (n := 1) rfl
theorem e_69_2 {ls : ab_L} {st : List Value} {w : ab_W} : ab_Run ab_mt 69 2 ls st w = ab_Run ab_mt 69 3 ls (.int (nI 0) :: st) w := E_push (n := 1) rfl
theorem e_69_3 {ls : ab_L} {st : List Value} {w : ab_W} {x : Int32} : ab_Run ab_mt 69 3 ls (.int x :: st) w = ab_Run ab_mt 69 5 (ab_l1 ls 4 (.int x)) st w := E_stori (n := 2) rfl
theorem e_69_5 {ls : ab_L} {st : List Value} {w : ab_W} (h : ab_isI (ls 4) = true) : ab_Run ab_mt 69 5 ls st w = ab_Run ab_mt 69 7 ls (ab_gv (ls 4) :: st) w := E_loadi (n := 2) rfl h
theorem e_69_7 {ls : ab_L} {st : List Value} {w : ab_W} (h : ab_isR (ls 0) = true) : ab_Run ab_mt 69 7 ls st w = ab_Run ab_mt 69 8 ls (ab_gv (ls 0) :: st) w := E_loadr (n := 1) rfl h
theorem e_69_8 {ls : ab_L} {st : List Value} {w : ab_W} {a : Nat} (h : ab_isF 1 0 (w.2 a) = true) : ab_Run ab_mt 69 8 ls (.ref a :: st) w = ab_Run ab_mt 69 11 ls (ab_fv 0 (w.2 a) :: st) w := E_get rfl h
theorem e_69_11 {ls : ab_L} {st : List Value} {w : ab_W} {a : Nat} (h : ab_isF 2 0 (w.2 a) = true) : ab_Run ab_mt 69 11 ls (.ref a :: st) w = ab_Run ab_mt 69 14 ls (ab_fv 0 (w.2 a) :: st) w := E_get rfl h
theorem e_69_14 {ls : ab_L} {st : List Value} {w : ab_W} {a : Nat} (h : ab_isF 3 3 (w.2 a) = true) : ab_Run ab_mt 69 14 ls (.ref a :: st) w = ab_Run ab_mt 69 17 ls (ab_fv 3 (w.2 a) :: st) w := E_get rfl h
theorem e_69_17 {ls : ab_L} {st : List Value} {w : ab_W} {x y : Int32} : ab_Run ab_mt 69 17 ls (.int y :: .int x :: st) w = if y ≤ x then ab_Run ab_mt 69 64 ls st w else ab_Run ab_mt 69 20 ls st w := E_ic_ge rfl
theorem e_69_20 {ls : ab_L} {st : List Value} {w : ab_W} (h : ab_isR (ls 0) = true) : ab_Run ab_mt 69 20 ls st w = ab_Run ab_mt 69 21 ls (ab_gv (ls 0) :: st) w := E_loadr (n := 1) rfl h
theorem e_69_21 {ls : ab_L} {st : List Value} {w : ab_W} {a : Nat} (h : ab_isF 1 0 (w.2 a) = true) : ab_Run ab_mt 69 21 ls (.ref a :: st) w = ab_Run ab_mt 69 24 ls (ab_fv 0 (w.2 a) :: st) w := E_get rfl h
theorem e_69_24 {ls : ab_L} {st : List Value} {w : ab_W} {a : Nat} (h : ab_isF 2 0 (w.2 a) = true) : ab_Run ab_mt 69 24 ls (.ref a :: st) w = ab_Run ab_mt 69 27 ls (ab_fv 0 (w.2 a) :: st) w := E_get rfl h
theorem e_69_27 {ls : ab_L} {st : List Value} {w : ab_W} (h : ab_isI (ls 4) = true) : ab_Run ab_mt 69 27 ls st w = ab_Run ab_mt 69 29 ls (ab_gv (ls 4) :: st) w := E_loadi (n := 2) rfl h
theorem e_69_29 {ls : ab_L} {st : List Value} {w : ab_W} : ab_Run ab_mt 69 29 ls st w = ab_Run ab_mt 69 30 ls (.int (nI 2) :: st) w := E_push (n := 1) rfl
theorem e_69_30 {ls : ab_L} {st : List Value} {w : ab_W} {v0 v1 v2 : Value} (h1 : ab_recv ab_mt 75 [v0, v1, v2] w.2 = true) (h8 : ab_w8 st = true) : ab_Run ab_mt 69 30 ls (v2 :: v1 :: v0 :: st) w = ab_aft 75 69 30 ls st (ab_Cl 75 [v0, v1, v2] w) := E_call3 rfl h1 h8
theorem e_69_33 {ls : ab_L} {st : List Value} {w : ab_W} {x : Int32} : ab_Run ab_mt 69 33 ls (.int x :: st) w = if x ≤ 0 then ab_Run ab_mt 69 40 ls st w else ab_Run ab_mt 69 36 ls st w := E_if_le rfl
theorem e_69_36 {ls : ab_L} {st : List Value} {w : ab_W} : ab_Run ab_mt 69 36 ls st w = ab_Run ab_mt 69 37 ls (.int (nI 1) :: st) w := E_push (n := 1) rfl
theorem e_69_37 {ls : ab_L} {st : List Value} {w : ab_W} : ab_Run ab_mt 69 37 ls st w = ab_Run ab_mt 69 41 ls st w := E_goto rfl
theorem e_69_40 {ls : ab_L} {st : List Value} {w : ab_W} : ab_Run ab_mt 69 40 ls st w = ab_Run ab_mt 69 41 ls (.int (nI 0) :: st) w := E_push (n := 1) rfl
theorem e_69_41 {ls : ab_L} {st : List Value} {w : ab_W} {x : Int32} : ab_Run ab_mt 69 41 ls (.int x :: st) w = ab_Run ab_mt 69 43 (ab_l1 ls 5 (.int x)) st w := E_stori (n := 2) rfl
theorem e_69_43 {ls : ab_L} {st : List Value} {w : ab_W} (h : ab_isI (ls 5) = true) : ab_Run ab_mt 69 43 ls st w = ab_Run ab_mt 69 45 ls (ab_gv (ls 5) :: st) w := E_loadi (n := 2) rfl h
theorem e_69_45 {ls : ab_L} {st : List Value} {w : ab_W} (h : ab_isI (ls 1) = true) : ab_Run ab_mt 69 45 ls st w = ab_Run ab_mt 69 46 ls (ab_gv (ls 1) :: st) w := E_loadi (n := 1) rfl h
theorem e_69_46 {ls : ab_L} {st : List Value} {w : ab_W} {x y : Int32} : ab_Run ab_mt 69 46 ls (.int y :: .int x :: st) w = if x = y then ab_Run ab_mt 69 49 ls st w else ab_Run ab_mt 69 58 ls st w := E_ic_ne rfl
theorem e_69_49 {ls : ab_L} {st : List Value} {w : ab_W} (h : ab_isL (ls 2) = true) (h2 : (ls 3).isNone = true) : ab_Run ab_mt 69 49 ls st w = ab_Run ab_mt 69 50 ls (ab_gv (ls 2) :: st) w := E_loadl (n := 1) rfl h h2
theorem e_69_50 {ls : ab_L} {st : List Value} {w : ab_W} (h : ab_isR (ls 0) = true) : ab_Run ab_mt 69 50 ls st w = ab_Run ab_mt 69 51 ls (ab_gv (ls 0) :: st) w := E_loadr (n := 1) rfl h
theorem e_69_51 {ls : ab_L} {st : List Value} {w : ab_W} (h : ab_isI (ls 4) = true) : ab_Run ab_mt 69 51 ls st w = ab_Run ab_mt 69 53 ls (ab_gv (ls 4) :: st) w := E_loadi (n := 2) rfl h
theorem e_69_53 {ls : ab_L} {st : List Value} {w : ab_W} {v0 v1 : Value} (h1 : ab_recv ab_mt 70 [v0, v1] w.2 = true) (h8 : ab_w8 st = true) : ab_Run ab_mt 69 53 ls (v1 :: v0 :: st) w = ab_aft 70 69 53 ls st (ab_Cl 70 [v0, v1] w) := E_call2 rfl h1 h8
theorem e_69_56 {ls : ab_L} {st : List Value} {w : ab_W} {x y : Int64} : ab_Run ab_mt 69 56 ls (.long y :: .long x :: st) w = ab_Run ab_mt 69 57 ls (.long (x + y) :: st) w := E_lb (f := fun x y => x + y) rfl
theorem e_69_57 {ls : ab_L} {st : List Value} {w : ab_W} {x : Int64} : ab_Run ab_mt 69 57 ls (.long x :: st) w = ab_Run ab_mt 69 58 (ab_l2 ls 2 (.long x)) st w := E_storl (n := 1) rfl
theorem e_69_58 {ls : ab_L} {st : List Value} {w : ab_W} (h : ab_isI (ls 4) = true) : ab_Run ab_mt 69 58 ls st w = ab_Run ab_mt 69 61 (ab_l1 ls 4 (.int (ab_gi (ls 4) + (nI 1)))) st w := E_iinc rfl h
theorem e_69_61 {ls : ab_L} {st : List Value} {w : ab_W} : ab_Run ab_mt 69 61 ls st w = ab_Run ab_mt 69 5 ls st w := E_goto rfl
theorem e_69_64 {ls : ab_L} {st : List Value} {w : ab_W} (h : ab_isL (ls 2) = true) (h2 : (ls 3).isNone = true) : ab_Run ab_mt 69 64 ls st w = ab_Run ab_mt 69 65 ls (ab_gv (ls 2) :: st) w := E_loadl (n := 1) rfl h h2
theorem e_69_65 {ls : ab_L} {w : ab_W} {x : Int64} : ab_Run ab_mt 69 65 ls [.long x] w = some (.inl (some (.long x)), w) := E_retl rfl
theorem rv_69 {σ : ab_S} {t : Nat} {x0 : Int32} : ab_recv ab_mt 69 [.ref t, .int x0] σ = ab_isO 1 (σ t) := rfl
theorem e_70_0 {ls : ab_L} {st : List Value} {w : ab_W} (h : ab_isR (ls 0) = true) : ab_Run ab_mt 70 0 ls st w = ab_Run ab_mt 70 1 ls (ab_gv (ls 0) :: st) w := E_loadr (n := 1) rfl h
theorem e_70_1 {ls : ab_L} {st : List Value} {w : ab_W} (h : ab_isI (ls 1) = true) : ab_Run ab_mt 70 1 ls st w = ab_Run ab_mt 70 2 ls (ab_gv (ls 1) :: st) w := E_loadi (n := 1) rfl h
theorem e_70_2 {ls : ab_L} {st : List Value} {w : ab_W} {v0 v1 : Value} (h1 : ab_recv ab_mt 54 [v0, v1] w.2 = true) (h8 : ab_w8 st = true) : ab_Run ab_mt 70 2 ls (v1 :: v0 :: st) w = ab_aft 54 70 2 ls st (ab_Cl 54 [v0, v1] w) := E_call2 rfl h1 h8
theorem e_70_5 {ls : ab_L} {st : List Value} {w : ab_W} {x : Int32} : ab_Run ab_mt 70 5 ls (.int x :: st) w = ab_Run ab_mt 70 6 (ab_l1 ls 2 (.int x)) st w := E_stori (n := 1) rfl
theorem e_70_6 {ls : ab_L} {st : List Value} {w : ab_W} (h : ab_isI (ls 2) = true) : ab_Run ab_mt 70 6 ls st w = ab_Run ab_mt 70 7 ls (ab_gv (ls 2) :: st) w := E_loadi (n := 1) rfl h
theorem e_70_7 {ls : ab_L} {st : List Value} {w : ab_W} (h : ab_isR (ls 0) = true) : ab_Run ab_mt 70 7 ls st w = ab_Run ab_mt 70 8 ls (ab_gv (ls 0) :: st) w := E_loadr (n := 1) rfl h
theorem e_70_8 {ls : ab_L} {st : List Value} {w : ab_W} {a : Nat} (h : ab_isF 1 0 (w.2 a) = true) : ab_Run ab_mt 70 8 ls (.ref a :: st) w = ab_Run ab_mt 70 11 ls (ab_fv 0 (w.2 a) :: st) w := E_get rfl h
theorem e_70_11 {ls : ab_L} {st : List Value} {w : ab_W} {a : Nat} (h : ab_isF 2 0 (w.2 a) = true) : ab_Run ab_mt 70 11 ls (.ref a :: st) w = ab_Run ab_mt 70 14 ls (ab_fv 0 (w.2 a) :: st) w := E_get rfl h
theorem e_70_14 {ls : ab_L} {st : List Value} {w : ab_W} (h : ab_isI (ls 1) = true) : ab_Run ab_mt 70 14 ls st w = ab_Run ab_mt 70 15 ls (ab_gv (ls 1) :: st) w := E_loadi (n := 1) rfl h
theorem e_70_15 {ls : ab_L} {st : List Value} {w : ab_W} : ab_Run ab_mt 70 15 ls st w = ab_Run ab_mt 70 16 ls (.int (nI 0) :: st) w := E_push (n := 1) rfl
theorem e_70_16 {ls : ab_L} {st : List Value} {w : ab_W} {v0 v1 v2 : Value} (h1 : ab_recv ab_mt 75 [v0, v1, v2] w.2 = true) (h8 : ab_w8 st = true) : ab_Run ab_mt 70 16 ls (v2 :: v1 :: v0 :: st) w = ab_aft 75 70 16 ls st (ab_Cl 75 [v0, v1, v2] w) := E_call3 rfl h1 h8
theorem e_70_19 {ls : ab_L} {st : List Value} {w : ab_W} {x y : Int32} : ab_Run ab_mt 70 19 ls (.int y :: .int x :: st) w = ab_Run ab_mt 70 20 ls (.int (x + y) :: st) w := E_ib (f := fun x y => x + y) rfl
theorem e_70_20 {ls : ab_L} {st : List Value} {w : ab_W} : ab_Run ab_mt 70 20 ls st w = ab_Run ab_mt 70 21 ls (.int (nI 1) :: st) w := E_push (n := 1) rfl
theorem e_70_21 {ls : ab_L} {st : List Value} {w : ab_W} {x y : Int32} : ab_Run ab_mt 70 21 ls (.int y :: .int x :: st) w = ab_Run ab_mt 70 22 ls (.int (x - y) :: st) w := E_ib (f := fun x y => x - y) rfl
theorem e_70_22 {ls : ab_L} {st : List Value} {w : ab_W} {x : Int32} : ab_Run ab_mt 70 22 ls (.int x :: st) w = ab_Run ab_mt 70 23 (ab_l1 ls 3 (.int x)) st w := E_stori (n := 1) rfl
theorem e_70_23 {ls : ab_L} {st : List Value} {w : ab_W} (h : ab_isR (ls 0) = true) : ab_Run ab_mt 70 23 ls st w = ab_Run ab_mt 70 24 ls (ab_gv (ls 0) :: st) w := E_loadr (n := 1) rfl h
theorem e_70_24 {ls : ab_L} {st : List Value} {w : ab_W} (h : ab_isI (ls 3) = true) : ab_Run ab_mt 70 24 ls st w = ab_Run ab_mt 70 25 ls (ab_gv (ls 3) :: st) w := E_loadi (n := 1) rfl h
theorem e_70_25 {ls : ab_L} {st : List Value} {w : ab_W} {v0 v1 : Value} (h1 : ab_recv ab_mt 59 [v0, v1] w.2 = true) (h8 : ab_w8 st = true) : ab_Run ab_mt 70 25 ls (v1 :: v0 :: st) w = ab_aft 59 70 25 ls st (ab_Cl 59 [v0, v1] w) := E_call2 rfl h1 h8
theorem e_70_28 {ls : ab_L} {st : List Value} {w : ab_W} (h : ab_isR (ls 0) = true) : ab_Run ab_mt 70 28 ls st w = ab_Run ab_mt 70 29 ls (ab_gv (ls 0) :: st) w := E_loadr (n := 1) rfl h
theorem e_70_29 {ls : ab_L} {st : List Value} {w : ab_W} (h : ab_isI (ls 3) = true) : ab_Run ab_mt 70 29 ls st w = ab_Run ab_mt 70 30 ls (ab_gv (ls 3) :: st) w := E_loadi (n := 1) rfl h
theorem e_70_30 {ls : ab_L} {st : List Value} {w : ab_W} {v0 v1 : Value} (h1 : ab_recv ab_mt 60 [v0, v1] w.2 = true) (h8 : ab_w8 st = true) : ab_Run ab_mt 70 30 ls (v1 :: v0 :: st) w = ab_aft 60 70 30 ls st (ab_Cl 60 [v0, v1] w) := E_call2 rfl h1 h8
theorem e_70_33 {ls : ab_L} {st : List Value} {w : ab_W} {x y : Int64} : ab_Run ab_mt 70 33 ls (.long y :: .long x :: st) w = ab_Run ab_mt 70 34 ls (.long (x + y) :: st) w := E_lb (f := fun x y => x + y) rfl
theorem e_70_34 {ls : ab_L} {st : List Value} {w : ab_W} (h : ab_isR (ls 0) = true) : ab_Run ab_mt 70 34 ls st w = ab_Run ab_mt 70 35 ls (ab_gv (ls 0) :: st) w := E_loadr (n := 1) rfl h
theorem e_70_35 {ls : ab_L} {st : List Value} {w : ab_W} (h : ab_isI (ls 2) = true) : ab_Run ab_mt 70 35 ls st w = ab_Run ab_mt 70 36 ls (ab_gv (ls 2) :: st) w := E_loadi (n := 1) rfl h
theorem e_70_36 {ls : ab_L} {st : List Value} {w : ab_W} {v0 v1 : Value} (h1 : ab_recv ab_mt 59 [v0, v1] w.2 = true) (h8 : ab_w8 st = true) : ab_Run ab_mt 70 36 ls (v1 :: v0 :: st) w = ab_aft 59 70 36 ls st (ab_Cl 59 [v0, v1] w) := E_call2 rfl h1 h8
theorem e_70_39 {ls : ab_L} {st : List Value} {w : ab_W} {x y : Int64} : ab_Run ab_mt 70 39 ls (.long y :: .long x :: st) w = ab_Run ab_mt 70 40 ls (.long (x - y) :: st) w := E_lb (f := fun x y => x - y) rfl
theorem e_70_40 {ls : ab_L} {w : ab_W} {x : Int64} : ab_Run ab_mt 70 40 ls [.long x] w = some (.inl (some (.long x)), w) := E_retl rfl
theorem rv_70 {σ : ab_S} {t : Nat} {x0 : Int32} : ab_recv ab_mt 70 [.ref t, .int x0] σ = ab_isO 1 (σ t) := rfl
theorem e_71_0 {ls : ab_L} {st : List Value} {w : ab_W} (h : ab_isR (ls 0) = true) : ab_Run ab_mt 71 0 ls st w = ab_Run ab_mt 71 1 ls (ab_gv (ls 0) :: st) w := E_loadr (n := 1) rfl h
theorem e_71_1 {ls : ab_L} {st : List Value} {w : ab_W} {a : Nat} (h8 : ab_w8 st = true) : ab_Run ab_mt 71 1 ls (.ref a :: st) w = ab_Run ab_mt 71 4 ls st w := E_oini rfl h8
theorem e_71_4 {ls : ab_L} {st : List Value} {w : ab_W} (h : ab_isR (ls 0) = true) : ab_Run ab_mt 71 4 ls st w = ab_Run ab_mt 71 5 ls (ab_gv (ls 0) :: st) w := E_loadr (n := 1) rfl h
theorem e_71_5 {ls : ab_L} {st : List Value} {w : ab_W} (h : w.1.1 = true) : ab_Run ab_mt 71 5 ls st w = ab_Run ab_mt 71 8 ls (.ref w.1.2.1 :: st) (ab_mk w.1 w.2 (ab_ob 3 [.int 0, .int 0, .null, .int 0]) 4) := E_new (n := 3) (x := ab_ob 3 [.int 0, .int 0, .null, .int 0]) (sz := 4) (rest := st) rfl rfl h
theorem e_71_8 {ls : ab_L} {st : List Value} {w : ab_W} {x : Nat} : ab_Run ab_mt 71 8 ls (.ref x :: st) w = ab_Run ab_mt 71 9 ls (.ref x :: .ref x :: st) w := E_dup_r rfl
theorem e_71_9 {ls : ab_L} {st : List Value} {w : ab_W} : ab_Run ab_mt 71 9 ls st w = ab_Run ab_mt 71 11 ls (.int (nI 24) :: st) w := E_push (n := 2) rfl
theorem e_71_11 {ls : ab_L} {st : List Value} {w : ab_W} : ab_Run ab_mt 71 11 ls st w = ab_Run ab_mt 71 12 ls (.int (nI 5) :: st) w := E_push (n := 1) rfl
theorem e_71_12 {ls : ab_L} {st : List Value} {w : ab_W} {v0 v1 v2 : Value} (h1 : ab_recv ab_mt 74 [v0, v1, v2] w.2 = true) (h8 : ab_w8 st = true) : ab_Run ab_mt 71 12 ls (v2 :: v1 :: v0 :: st) w = ab_aft 74 71 12 ls st (ab_Cl 74 [v0, v1, v2] w) := E_call3 rfl h1 h8
theorem e_71_15 {ls : ab_L} {st : List Value} {w : ab_W} {a : Nat} {x : Nat} (h : ab_isF 2 0 (w.2 a) = true) : ab_Run ab_mt 71 15 ls (.ref x :: .ref a :: st) w = ab_Run ab_mt 71 18 ls st (w.1, ab_up w.2 a (ab_sf 0 (.ref x) (w.2 a))) := E_put rfl h rfl
theorem e_71_18 {ls : ab_L} {st : List Value} {w : ab_W} (h : ab_isR (ls 0) = true) : ab_Run ab_mt 71 18 ls st w = ab_Run ab_mt 71 19 ls (ab_gv (ls 0) :: st) w := E_loadr (n := 1) rfl h
theorem e_71_19 {ls : ab_L} {st : List Value} {w : ab_W} (h : w.1.1 = true) : ab_Run ab_mt 71 19 ls st w = ab_Run ab_mt 71 22 ls (.ref w.1.2.1 :: st) (ab_mk w.1 w.2 (ab_ob 3 [.int 0, .int 0, .null, .int 0]) 4) := E_new (n := 3) (x := ab_ob 3 [.int 0, .int 0, .null, .int 0]) (sz := 4) (rest := st) rfl rfl h
theorem e_71_22 {ls : ab_L} {st : List Value} {w : ab_W} {x : Nat} : ab_Run ab_mt 71 22 ls (.ref x :: st) w = ab_Run ab_mt 71 23 ls (.ref x :: .ref x :: st) w := E_dup_r rfl
theorem e_71_23 {ls : ab_L} {st : List Value} {w : ab_W} : ab_Run ab_mt 71 23 ls st w = ab_Run ab_mt 71 25 ls (.int (nI 11) :: st) w := E_push (n := 2) rfl
theorem e_71_25 {ls : ab_L} {st : List Value} {w : ab_W} : ab_Run ab_mt 71 25 ls st w = ab_Run ab_mt 71 26 ls (.int (nI 3) :: st) w := E_push (n := 1) rfl
theorem e_71_26 {ls : ab_L} {st : List Value} {w : ab_W} {v0 v1 v2 : Value} (h1 : ab_recv ab_mt 74 [v0, v1, v2] w.2 = true) (h8 : ab_w8 st = true) : ab_Run ab_mt 71 26 ls (v2 :: v1 :: v0 :: st) w = ab_aft 74 71 26 ls st (ab_Cl 74 [v0, v1, v2] w) := E_call3 rfl h1 h8
theorem e_71_29 {ls : ab_L} {st : List Value} {w : ab_W} {a : Nat} {x : Nat} (h : ab_isF 2 1 (w.2 a) = true) : ab_Run ab_mt 71 29 ls (.ref x :: .ref a :: st) w = ab_Run ab_mt 71 32 ls st (w.1, ab_up w.2 a (ab_sf 1 (.ref x) (w.2 a))) := E_put rfl h rfl
theorem e_71_32 {ls : ab_L} {st : List Value} {w : ab_W} (h : ab_isR (ls 0) = true) : ab_Run ab_mt 71 32 ls st w = ab_Run ab_mt 71 33 ls (ab_gv (ls 0) :: st) w := E_loadr (n := 1) rfl h
theorem e_71_33 {ls : ab_L} {st : List Value} {w : ab_W} (h : w.1.1 = true) : ab_Run ab_mt 71 33 ls st w = ab_Run ab_mt 71 36 ls (.ref w.1.2.1 :: st) (ab_mk w.1 w.2 (ab_ob 3 [.int 0, .int 0, .null, .int 0]) 4) := E_new (n := 3) (x := ab_ob 3 [.int 0, .int 0, .null, .int 0]) (sz := 4) (rest := st) rfl rfl h
theorem e_71_36 {ls : ab_L} {st : List Value} {w : ab_W} {x : Nat} : ab_Run ab_mt 71 36 ls (.ref x :: st) w = ab_Run ab_mt 71 37 ls (.ref x :: .ref x :: st) w := E_dup_r rfl
theorem e_71_37 {ls : ab_L} {st : List Value} {w : ab_W} : ab_Run ab_mt 71 37 ls st w = ab_Run ab_mt 71 39 ls (.int (nI 12) :: st) w := E_push (n := 2) rfl
theorem e_71_39 {ls : ab_L} {st : List Value} {w : ab_W} : ab_Run ab_mt 71 39 ls st w = ab_Run ab_mt 71 40 ls (.int (nI 3) :: st) w := E_push (n := 1) rfl
theorem e_71_40 {ls : ab_L} {st : List Value} {w : ab_W} {v0 v1 v2 : Value} (h1 : ab_recv ab_mt 74 [v0, v1, v2] w.2 = true) (h8 : ab_w8 st = true) : ab_Run ab_mt 71 40 ls (v2 :: v1 :: v0 :: st) w = ab_aft 74 71 40 ls st (ab_Cl 74 [v0, v1, v2] w) := E_call3 rfl h1 h8
theorem e_71_43 {ls : ab_L} {st : List Value} {w : ab_W} {a : Nat} {x : Nat} (h : ab_isF 2 2 (w.2 a) = true) : ab_Run ab_mt 71 43 ls (.ref x :: .ref a :: st) w = ab_Run ab_mt 71 46 ls st (w.1, ab_up w.2 a (ab_sf 2 (.ref x) (w.2 a))) := E_put rfl h rfl
theorem e_71_46 {ls : ab_L} {w : ab_W} : ab_Run ab_mt 71 46 ls [] w = some (.inl none, w) := E_ret0 rfl
theorem rv_71 {σ : ab_S} {t : Nat} : ab_recv ab_mt 71 [.ref t] σ = ab_isO 2 (σ t) := rfl
theorem e_72_0 {ls : ab_L} {st : List Value} {w : ab_W} (h : ab_isR (ls 0) = true) : ab_Run ab_mt 72 0 ls st w = ab_Run ab_mt 72 1 ls (ab_gv (ls 0) :: st) w := E_loadr (n := 1) rfl h
theorem e_72_1 {ls : ab_L} {st : List Value} {w : ab_W} {a : Nat} (h : ab_isF 2 0 (w.2 a) = true) : ab_Run ab_mt 72 1 ls (.ref a :: st) w = ab_Run ab_mt 72 4 ls (ab_fv 0 (w.2 a) :: st) w := E_get rfl h
theorem e_72_4 {ls : ab_L} {st : List Value} {w : ab_W} : ab_Run ab_mt 72 4 ls st w = ab_Run ab_mt 72 5 ls (.int (nI 0) :: st) w := E_push (n := 1) rfl
theorem e_72_5 {ls : ab_L} {st : List Value} {w : ab_W} {a : Nat} {x : Int32} (h : ab_isF 3 3 (w.2 a) = true) : ab_Run ab_mt 72 5 ls (.int x :: .ref a :: st) w = ab_Run ab_mt 72 8 ls st (w.1, ab_up w.2 a (ab_sf 3 (.int x) (w.2 a))) := E_put rfl h rfl
theorem e_72_8 {ls : ab_L} {st : List Value} {w : ab_W} (h : ab_isR (ls 0) = true) : ab_Run ab_mt 72 8 ls st w = ab_Run ab_mt 72 9 ls (ab_gv (ls 0) :: st) w := E_loadr (n := 1) rfl h
theorem e_72_9 {ls : ab_L} {st : List Value} {w : ab_W} {a : Nat} (h : ab_isF 2 1 (w.2 a) = true) : ab_Run ab_mt 72 9 ls (.ref a :: st) w = ab_Run ab_mt 72 12 ls (ab_fv 1 (w.2 a) :: st) w := E_get rfl h
theorem e_72_12 {ls : ab_L} {st : List Value} {w : ab_W} : ab_Run ab_mt 72 12 ls st w = ab_Run ab_mt 72 13 ls (.int (nI 0) :: st) w := E_push (n := 1) rfl
theorem e_72_13 {ls : ab_L} {st : List Value} {w : ab_W} {a : Nat} {x : Int32} (h : ab_isF 3 3 (w.2 a) = true) : ab_Run ab_mt 72 13 ls (.int x :: .ref a :: st) w = ab_Run ab_mt 72 16 ls st (w.1, ab_up w.2 a (ab_sf 3 (.int x) (w.2 a))) := E_put rfl h rfl
theorem e_72_16 {ls : ab_L} {st : List Value} {w : ab_W} (h : ab_isR (ls 0) = true) : ab_Run ab_mt 72 16 ls st w = ab_Run ab_mt 72 17 ls (ab_gv (ls 0) :: st) w := E_loadr (n := 1) rfl h
theorem e_72_17 {ls : ab_L} {st : List Value} {w : ab_W} {a : Nat} (h : ab_isF 2 2 (w.2 a) = true) : ab_Run ab_mt 72 17 ls (.ref a :: st) w = ab_Run ab_mt 72 20 ls (ab_fv 2 (w.2 a) :: st) w := E_get rfl h
theorem e_72_20 {ls : ab_L} {st : List Value} {w : ab_W} : ab_Run ab_mt 72 20 ls st w = ab_Run ab_mt 72 21 ls (.int (nI 0) :: st) w := E_push (n := 1) rfl
theorem e_72_21 {ls : ab_L} {st : List Value} {w : ab_W} {a : Nat} {x : Int32} (h : ab_isF 3 3 (w.2 a) = true) : ab_Run ab_mt 72 21 ls (.int x :: .ref a :: st) w = ab_Run ab_mt 72 24 ls st (w.1, ab_up w.2 a (ab_sf 3 (.int x) (w.2 a))) := E_put rfl h rfl
theorem e_72_24 {ls : ab_L} {w : ab_W} : ab_Run ab_mt 72 24 ls [] w = some (.inl none, w) := E_ret0 rfl
theorem rv_72 {σ : ab_S} {t : Nat} : ab_recv ab_mt 72 [.ref t] σ = ab_isO 2 (σ t) := rfl
theorem e_73_0 {ls : ab_L} {st : List Value} {w : ab_W} (h : ab_isR (ls 0) = true) : ab_Run ab_mt 73 0 ls st w = ab_Run ab_mt 73 1 ls (ab_gv (ls 0) :: st) w := E_loadr (n := 1) rfl h
theorem e_73_1 {ls : ab_L} {st : List Value} {w : ab_W} {a : Nat} (h : ab_isF 2 0 (w.2 a) = true) : ab_Run ab_mt 73 1 ls (.ref a :: st) w = ab_Run ab_mt 73 4 ls (ab_fv 0 (w.2 a) :: st) w := E_get rfl h
theorem e_73_4 {ls : ab_L} {st : List Value} {w : ab_W} (h : ab_isR (ls 1) = true) : ab_Run ab_mt 73 4 ls st w = ab_Run ab_mt 73 5 ls (ab_gv (ls 1) :: st) w := E_loadr (n := 1) rfl h
theorem e_73_5 {ls : ab_L} {st : List Value} {w : ab_W} {a : Nat} (h : ab_isF 2 0 (w.2 a) = true) : ab_Run ab_mt 73 5 ls (.ref a :: st) w = ab_Run ab_mt 73 8 ls (ab_fv 0 (w.2 a) :: st) w := E_get rfl h
theorem e_73_8 {ls : ab_L} {st : List Value} {w : ab_W} {v0 v1 : Value} (h1 : ab_recv ab_mt 80 [v0, v1] w.2 = true) (h8 : ab_w8 st = true) : ab_Run ab_mt 73 8 ls (v1 :: v0 :: st) w = ab_aft 80 73 8 ls st (ab_Cl 80 [v0, v1] w) := E_call2 rfl h1 h8
theorem e_73_11 {ls : ab_L} {st : List Value} {w : ab_W} (h : ab_isR (ls 0) = true) : ab_Run ab_mt 73 11 ls st w = ab_Run ab_mt 73 12 ls (ab_gv (ls 0) :: st) w := E_loadr (n := 1) rfl h
theorem e_73_12 {ls : ab_L} {st : List Value} {w : ab_W} {a : Nat} (h : ab_isF 2 1 (w.2 a) = true) : ab_Run ab_mt 73 12 ls (.ref a :: st) w = ab_Run ab_mt 73 15 ls (ab_fv 1 (w.2 a) :: st) w := E_get rfl h
theorem e_73_15 {ls : ab_L} {st : List Value} {w : ab_W} (h : ab_isR (ls 1) = true) : ab_Run ab_mt 73 15 ls st w = ab_Run ab_mt 73 16 ls (ab_gv (ls 1) :: st) w := E_loadr (n := 1) rfl h
theorem e_73_16 {ls : ab_L} {st : List Value} {w : ab_W} {a : Nat} (h : ab_isF 2 1 (w.2 a) = true) : ab_Run ab_mt 73 16 ls (.ref a :: st) w = ab_Run ab_mt 73 19 ls (ab_fv 1 (w.2 a) :: st) w := E_get rfl h
theorem e_73_19 {ls : ab_L} {st : List Value} {w : ab_W} {v0 v1 : Value} (h1 : ab_recv ab_mt 80 [v0, v1] w.2 = true) (h8 : ab_w8 st = true) : ab_Run ab_mt 73 19 ls (v1 :: v0 :: st) w = ab_aft 80 73 19 ls st (ab_Cl 80 [v0, v1] w) := E_call2 rfl h1 h8
theorem e_73_22 {ls : ab_L} {st : List Value} {w : ab_W} (h : ab_isR (ls 0) = true) : ab_Run ab_mt 73 22 ls st w = ab_Run ab_mt 73 23 ls (ab_gv (ls 0) :: st) w := E_loadr (n := 1) rfl h
theorem e_73_23 {ls : ab_L} {st : List Value} {w : ab_W} {a : Nat} (h : ab_isF 2 2 (w.2 a) = true) : ab_Run ab_mt 73 23 ls (.ref a :: st) w = ab_Run ab_mt 73 26 ls (ab_fv 2 (w.2 a) :: st) w := E_get rfl h
theorem e_73_26 {ls : ab_L} {st : List Value} {w : ab_W} (h : ab_isR (ls 1) = true) : ab_Run ab_mt 73 26 ls st w = ab_Run ab_mt 73 27 ls (ab_gv (ls 1) :: st) w := E_loadr (n := 1) rfl h
theorem e_73_27 {ls : ab_L} {st : List Value} {w : ab_W} {a : Nat} (h : ab_isF 2 2 (w.2 a) = true) : ab_Run ab_mt 73 27 ls (.ref a :: st) w = ab_Run ab_mt 73 30 ls (ab_fv 2 (w.2 a) :: st) w := E_get rfl h
theorem e_73_30 {ls : ab_L} {st : List Value} {w : ab_W} {v0 v1 : Value} (h1 : ab_recv ab_mt 80 [v0, v1] w.2 = true) (h8 : ab_w8 st = true) : ab_Run ab_mt 73 30 ls (v1 :: v0 :: st) w = ab_aft 80 73 30 ls st (ab_Cl 80 [v0, v1] w) := E_call2 rfl h1 h8
theorem e_73_33 {ls : ab_L} {w : ab_W} : ab_Run ab_mt 73 33 ls [] w = some (.inl none, w) := E_ret0 rfl
theorem rv_73 {σ : ab_S} {t : Nat} {x0 : Nat} : ab_recv ab_mt 73 [.ref t, .ref x0] σ = ab_isO 2 (σ t) := rfl
theorem e_74_0 {ls : ab_L} {st : List Value} {w : ab_W} (h : ab_isR (ls 0) = true) : ab_Run ab_mt 74 0 ls st w = ab_Run ab_mt 74 1 ls (ab_gv (ls 0) :: st) w := E_loadr (n := 1) rfl h
theorem e_74_1 {ls : ab_L} {st : List Value} {w : ab_W} {a : Nat} (h8 : ab_w8 st = true) : ab_Run ab_mt 74 1 ls (.ref a :: st) w = ab_Run ab_mt 74 4 ls st w := E_oini rfl h8
theorem e_74_4 {ls : ab_L} {st : List Value} {w : ab_W} (h : ab_isR (ls 0) = true) : ab_Run ab_mt 74 4 ls st w = ab_Run ab_mt 74 5 ls (ab_gv (ls 0) :: st) w := E_loadr (n := 1) rfl h
theorem e_74_5 {ls : ab_L} {st : List Value} {w : ab_W} (h : ab_isI (ls 1) = true) : ab_Run ab_mt 74 5 ls st w = ab_Run ab_mt 74 6 ls (ab_gv (ls 1) :: st) w := E_loadi (n := 1) rfl h
theorem e_74_6 {ls : ab_L} {st : List Value} {w : ab_W} {a : Nat} {x : Int32} (h : ab_isF 3 0 (w.2 a) = true) : ab_Run ab_mt 74 6 ls (.int x :: .ref a :: st) w = ab_Run ab_mt 74 9 ls st (w.1, ab_up w.2 a (ab_sf 0 (.int x) (w.2 a))) := E_put rfl h rfl
theorem e_74_9 {ls : ab_L} {st : List Value} {w : ab_W} (h : ab_isR (ls 0) = true) : ab_Run ab_mt 74 9 ls st w = ab_Run ab_mt 74 10 ls (ab_gv (ls 0) :: st) w := E_loadr (n := 1) rfl h
theorem e_74_10 {ls : ab_L} {st : List Value} {w : ab_W} (h : ab_isI (ls 2) = true) : ab_Run ab_mt 74 10 ls st w = ab_Run ab_mt 74 11 ls (ab_gv (ls 2) :: st) w := E_loadi (n := 1) rfl h
theorem e_74_11 {ls : ab_L} {st : List Value} {w : ab_W} {a : Nat} {x : Int32} (h : ab_isF 3 1 (w.2 a) = true) : ab_Run ab_mt 74 11 ls (.int x :: .ref a :: st) w = ab_Run ab_mt 74 14 ls st (w.1, ab_up w.2 a (ab_sf 1 (.int x) (w.2 a))) := E_put rfl h rfl
theorem e_74_14 {ls : ab_L} {st : List Value} {w : ab_W} (h : ab_isR (ls 0) = true) : ab_Run ab_mt 74 14 ls st w = ab_Run ab_mt 74 15 ls (ab_gv (ls 0) :: st) w := E_loadr (n := 1) rfl h
theorem e_74_15 {ls : ab_L} {st : List Value} {w : ab_W} (h : ab_isI (ls 1) = true) : ab_Run ab_mt 74 15 ls st w = ab_Run ab_mt 74 16 ls (ab_gv (ls 1) :: st) w := E_loadi (n := 1) rfl h
theorem e_74_16 {ls : ab_L} {st : List Value} {w : ab_W} (h : ab_isI (ls 2) = true) : ab_Run ab_mt 74 16 ls st w = ab_Run ab_mt 74 17 ls (ab_gv (ls 2) :: st) w := E_loadi (n := 1) rfl h
theorem e_74_17 {ls : ab_L} {st : List Value} {w : ab_W} {x y : Int32} : ab_Run ab_mt 74 17 ls (.int y :: .int x :: st) w = ab_Run ab_mt 74 18 ls (.int (x * y) :: st) w := E_ib (f := fun x y => x * y) rfl
theorem e_74_18 {ls : ab_L} {st : List Value} {w : ab_W} : ab_Run ab_mt 74 18 ls st w = ab_Run ab_mt 74 19 ls (.int (nI 0) :: st) w := E_push (n := 1) rfl
theorem e_74_19 {ls : ab_L} {st : List Value} {w : ab_W} {x y : Int32} (h8 : ab_w8 st = true) : ab_Run ab_mt 74 19 ls (.int y :: .int x :: st) w = ab_Run ab_mt 74 22 ls (.int (if x < y then y else x) :: st) w := E_maxi rfl h8
theorem e_74_22 {ls : ab_L} {st : List Value} {w : ab_W} {n : Int32} (h : w.1.1 = true) (hn : ¬ (n < 0 ∨ 60000 < n.toNatClampNeg)) : ab_Run ab_mt 74 22 ls (.int n :: st) w = ab_Run ab_mt 74 24 ls (.ref w.1.2.1 :: st) (ab_mk w.1 w.2 (ab_ia n.toNatClampNeg (fun _ => 0)) n.toNatClampNeg) := E_new (n := 2) (x := ab_ia n.toNatClampNeg (fun _ => 0)) (sz := n.toNatClampNeg) (rest := st) rfl (if_neg hn) h
theorem e_74_24 {ls : ab_L} {st : List Value} {w : ab_W} {a : Nat} {x : Nat} (h : ab_isF 3 2 (w.2 a) = true) : ab_Run ab_mt 74 24 ls (.ref x :: .ref a :: st) w = ab_Run ab_mt 74 27 ls st (w.1, ab_up w.2 a (ab_sf 2 (.ref x) (w.2 a))) := E_put rfl h rfl
theorem e_74_27 {ls : ab_L} {w : ab_W} : ab_Run ab_mt 74 27 ls [] w = some (.inl none, w) := E_ret0 rfl
theorem rv_74 {σ : ab_S} {t : Nat} {x0 : Int32} {x1 : Int32} : ab_recv ab_mt 74 [.ref t, .int x0, .int x1] σ = ab_isO 3 (σ t) := rfl
theorem e_75_0 {ls : ab_L} {st : List Value} {w : ab_W} (h : ab_isI (ls 1) = true) : ab_Run ab_mt 75 0 ls st w = ab_Run ab_mt 75 1 ls (ab_gv (ls 1) :: st) w := E_loadi (n := 1) rfl h
theorem e_75_1 {ls : ab_L} {st : List Value} {w : ab_W} {x : Int32} : ab_Run ab_mt 75 1 ls (.int x :: st) w = if x < 0 then ab_Run ab_mt 75 24 ls st w else ab_Run ab_mt 75 4 ls st w := E_if_lt rfl
theorem e_75_4 {ls : ab_L} {st : List Value} {w : ab_W} (h : ab_isI (ls 1) = true) : ab_Run ab_mt 75 4 ls st w = ab_Run ab_mt 75 5 ls (ab_gv (ls 1) :: st) w := E_loadi (n := 1) rfl h
theorem e_75_5 {ls : ab_L} {st : List Value} {w : ab_W} (h : ab_isR (ls 0) = true) : ab_Run ab_mt 75 5 ls st w = ab_Run ab_mt 75 6 ls (ab_gv (ls 0) :: st) w := E_loadr (n := 1) rfl h
theorem e_75_6 {ls : ab_L} {st : List Value} {w : ab_W} {a : Nat} (h : ab_isF 3 3 (w.2 a) = true) : ab_Run ab_mt 75 6 ls (.ref a :: st) w = ab_Run ab_mt 75 9 ls (ab_fv 3 (w.2 a) :: st) w := E_get rfl h
theorem e_75_9 {ls : ab_L} {st : List Value} {w : ab_W} {x y : Int32} : ab_Run ab_mt 75 9 ls (.int y :: .int x :: st) w = if y ≤ x then ab_Run ab_mt 75 24 ls st w else ab_Run ab_mt 75 12 ls st w := E_ic_ge rfl
theorem e_75_12 {ls : ab_L} {st : List Value} {w : ab_W} (h : ab_isI (ls 2) = true) : ab_Run ab_mt 75 12 ls st w = ab_Run ab_mt 75 13 ls (ab_gv (ls 2) :: st) w := E_loadi (n := 1) rfl h
theorem e_75_13 {ls : ab_L} {st : List Value} {w : ab_W} {x : Int32} : ab_Run ab_mt 75 13 ls (.int x :: st) w = if x < 0 then ab_Run ab_mt 75 24 ls st w else ab_Run ab_mt 75 16 ls st w := E_if_lt rfl
theorem e_75_16 {ls : ab_L} {st : List Value} {w : ab_W} (h : ab_isI (ls 2) = true) : ab_Run ab_mt 75 16 ls st w = ab_Run ab_mt 75 17 ls (ab_gv (ls 2) :: st) w := E_loadi (n := 1) rfl h
theorem e_75_17 {ls : ab_L} {st : List Value} {w : ab_W} (h : ab_isR (ls 0) = true) : ab_Run ab_mt 75 17 ls st w = ab_Run ab_mt 75 18 ls (ab_gv (ls 0) :: st) w := E_loadr (n := 1) rfl h
theorem e_75_18 {ls : ab_L} {st : List Value} {w : ab_W} {a : Nat} (h : ab_isF 3 1 (w.2 a) = true) : ab_Run ab_mt 75 18 ls (.ref a :: st) w = ab_Run ab_mt 75 21 ls (ab_fv 1 (w.2 a) :: st) w := E_get rfl h
theorem e_75_21 {ls : ab_L} {st : List Value} {w : ab_W} {x y : Int32} : ab_Run ab_mt 75 21 ls (.int y :: .int x :: st) w = if x < y then ab_Run ab_mt 75 26 ls st w else ab_Run ab_mt 75 24 ls st w := E_ic_lt rfl
theorem e_75_24 {ls : ab_L} {st : List Value} {w : ab_W} : ab_Run ab_mt 75 24 ls st w = ab_Run ab_mt 75 25 ls (.int (nI 0) :: st) w := E_push (n := 1) rfl
theorem e_75_25 {ls : ab_L} {w : ab_W} {x : Int32} : ab_Run ab_mt 75 25 ls [.int x] w = some (.inl (some (.int x)), w) := E_reti rfl
theorem e_75_26 {ls : ab_L} {st : List Value} {w : ab_W} (h : ab_isR (ls 0) = true) : ab_Run ab_mt 75 26 ls st w = ab_Run ab_mt 75 27 ls (ab_gv (ls 0) :: st) w := E_loadr (n := 1) rfl h
theorem e_75_27 {ls : ab_L} {st : List Value} {w : ab_W} {a : Nat} (h : ab_isF 3 2 (w.2 a) = true) : ab_Run ab_mt 75 27 ls (.ref a :: st) w = ab_Run ab_mt 75 30 ls (ab_fv 2 (w.2 a) :: st) w := E_get rfl h
theorem e_75_30 {ls : ab_L} {st : List Value} {w : ab_W} (h : ab_isI (ls 1) = true) : ab_Run ab_mt 75 30 ls st w = ab_Run ab_mt 75 31 ls (ab_gv (ls 1) :: st) w := E_loadi (n := 1) rfl h
theorem e_75_31 {ls : ab_L} {st : List Value} {w : ab_W} (h : ab_isR (ls 0) = true) : ab_Run ab_mt 75 31 ls st w = ab_Run ab_mt 75 32 ls (ab_gv (ls 0) :: st) w := E_loadr (n := 1) rfl h
theorem e_75_32 {ls : ab_L} {st : List Value} {w : ab_W} {a : Nat} (h : ab_isF 3 1 (w.2 a) = true) : ab_Run ab_mt 75 32 ls (.ref a :: st) w = ab_Run ab_mt 75 35 ls (ab_fv 1 (w.2 a) :: st) w := E_get rfl h
theorem e_75_35 {ls : ab_L} {st : List Value} {w : ab_W} {x y : Int32} : ab_Run ab_mt 75 35 ls (.int y :: .int x :: st) w = ab_Run ab_mt 75 36 ls (.int (x * y) :: st) w := E_ib (f := fun x y => x * y) rfl
theorem e_75_36 {ls : ab_L} {st : List Value} {w : ab_W} (h : ab_isI (ls 2) = true) : ab_Run ab_mt 75 36 ls st w = ab_Run ab_mt 75 37 ls (ab_gv (ls 2) :: st) w := E_loadi (n := 1) rfl h
theorem e_75_37 {ls : ab_L} {st : List Value} {w : ab_W} {x y : Int32} : ab_Run ab_mt 75 37 ls (.int y :: .int x :: st) w = ab_Run ab_mt 75 38 ls (.int (x + y) :: st) w := E_ib (f := fun x y => x + y) rfl
theorem e_75_38 {ls : ab_L} {st : List Value} {w : ab_W} {a : Nat} {i : Int32} (h : ab_inI i (w.2 a) = true) : ab_Run ab_mt 75 38 ls (.int i :: .ref a :: st) w = ab_Run ab_mt 75 39 ls (.int (ab_aI i.toNatClampNeg (w.2 a)) :: st) w := E_iald rfl h
theorem e_75_39 {ls : ab_L} {w : ab_W} {x : Int32} : ab_Run ab_mt 75 39 ls [.int x] w = some (.inl (some (.int x)), w) := E_reti rfl
theorem rv_75 {σ : ab_S} {t : Nat} {x0 : Int32} {x1 : Int32} : ab_recv ab_mt 75 [.ref t, .int x0, .int x1] σ = ab_isO 3 (σ t) := rfl
theorem e_76_0 {ls : ab_L} {st : List Value} {w : ab_W} (h : ab_isI (ls 1) = true) : ab_Run ab_mt 76 0 ls st w = ab_Run ab_mt 76 1 ls (ab_gv (ls 1) :: st) w := E_loadi (n := 1) rfl h
theorem e_76_1 {ls : ab_L} {st : List Value} {w : ab_W} {x : Int32} : ab_Run ab_mt 76 1 ls (.int x :: st) w = if x < 0 then ab_Run ab_mt 76 38 ls st w else ab_Run ab_mt 76 4 ls st w := E_if_lt rfl
theorem e_76_4 {ls : ab_L} {st : List Value} {w : ab_W} (h : ab_isI (ls 1) = true) : ab_Run ab_mt 76 4 ls st w = ab_Run ab_mt 76 5 ls (ab_gv (ls 1) :: st) w := E_loadi (n := 1) rfl h
theorem e_76_5 {ls : ab_L} {st : List Value} {w : ab_W} (h : ab_isR (ls 0) = true) : ab_Run ab_mt 76 5 ls st w = ab_Run ab_mt 76 6 ls (ab_gv (ls 0) :: st) w := E_loadr (n := 1) rfl h
theorem e_76_6 {ls : ab_L} {st : List Value} {w : ab_W} {a : Nat} (h : ab_isF 3 3 (w.2 a) = true) : ab_Run ab_mt 76 6 ls (.ref a :: st) w = ab_Run ab_mt 76 9 ls (ab_fv 3 (w.2 a) :: st) w := E_get rfl h
theorem e_76_9 {ls : ab_L} {st : List Value} {w : ab_W} {x y : Int32} : ab_Run ab_mt 76 9 ls (.int y :: .int x :: st) w = if y ≤ x then ab_Run ab_mt 76 38 ls st w else ab_Run ab_mt 76 12 ls st w := E_ic_ge rfl
theorem e_76_12 {ls : ab_L} {st : List Value} {w : ab_W} (h : ab_isI (ls 2) = true) : ab_Run ab_mt 76 12 ls st w = ab_Run ab_mt 76 13 ls (ab_gv (ls 2) :: st) w := E_loadi (n := 1) rfl h
theorem e_76_13 {ls : ab_L} {st : List Value} {w : ab_W} {x : Int32} : ab_Run ab_mt 76 13 ls (.int x :: st) w = if x < 0 then ab_Run ab_mt 76 38 ls st w else ab_Run ab_mt 76 16 ls st w := E_if_lt rfl
theorem e_76_16 {ls : ab_L} {st : List Value} {w : ab_W} (h : ab_isI (ls 2) = true) : ab_Run ab_mt 76 16 ls st w = ab_Run ab_mt 76 17 ls (ab_gv (ls 2) :: st) w := E_loadi (n := 1) rfl h
theorem e_76_17 {ls : ab_L} {st : List Value} {w : ab_W} (h : ab_isR (ls 0) = true) : ab_Run ab_mt 76 17 ls st w = ab_Run ab_mt 76 18 ls (ab_gv (ls 0) :: st) w := E_loadr (n := 1) rfl h
theorem e_76_18 {ls : ab_L} {st : List Value} {w : ab_W} {a : Nat} (h : ab_isF 3 1 (w.2 a) = true) : ab_Run ab_mt 76 18 ls (.ref a :: st) w = ab_Run ab_mt 76 21 ls (ab_fv 1 (w.2 a) :: st) w := E_get rfl h
theorem e_76_21 {ls : ab_L} {st : List Value} {w : ab_W} {x y : Int32} : ab_Run ab_mt 76 21 ls (.int y :: .int x :: st) w = if y ≤ x then ab_Run ab_mt 76 38 ls st w else ab_Run ab_mt 76 24 ls st w := E_ic_ge rfl
theorem e_76_24 {ls : ab_L} {st : List Value} {w : ab_W} (h : ab_isR (ls 0) = true) : ab_Run ab_mt 76 24 ls st w = ab_Run ab_mt 76 25 ls (ab_gv (ls 0) :: st) w := E_loadr (n := 1) rfl h
theorem e_76_25 {ls : ab_L} {st : List Value} {w : ab_W} {a : Nat} (h : ab_isF 3 2 (w.2 a) = true) : ab_Run ab_mt 76 25 ls (.ref a :: st) w = ab_Run ab_mt 76 28 ls (ab_fv 2 (w.2 a) :: st) w := E_get rfl h
theorem e_76_28 {ls : ab_L} {st : List Value} {w : ab_W} (h : ab_isI (ls 1) = true) : ab_Run ab_mt 76 28 ls st w = ab_Run ab_mt 76 29 ls (ab_gv (ls 1) :: st) w := E_loadi (n := 1) rfl h
theorem e_76_29 {ls : ab_L} {st : List Value} {w : ab_W} (h : ab_isR (ls 0) = true) : ab_Run ab_mt 76 29 ls st w = ab_Run ab_mt 76 30 ls (ab_gv (ls 0) :: st) w := E_loadr (n := 1) rfl h
theorem e_76_30 {ls : ab_L} {st : List Value} {w : ab_W} {a : Nat} (h : ab_isF 3 1 (w.2 a) = true) : ab_Run ab_mt 76 30 ls (.ref a :: st) w = ab_Run ab_mt 76 33 ls (ab_fv 1 (w.2 a) :: st) w := E_get rfl h
theorem e_76_33 {ls : ab_L} {st : List Value} {w : ab_W} {x y : Int32} : ab_Run ab_mt 76 33 ls (.int y :: .int x :: st) w = ab_Run ab_mt 76 34 ls (.int (x * y) :: st) w := E_ib (f := fun x y => x * y) rfl
theorem e_76_34 {ls : ab_L} {st : List Value} {w : ab_W} (h : ab_isI (ls 2) = true) : ab_Run ab_mt 76 34 ls st w = ab_Run ab_mt 76 35 ls (ab_gv (ls 2) :: st) w := E_loadi (n := 1) rfl h
theorem e_76_35 {ls : ab_L} {st : List Value} {w : ab_W} {x y : Int32} : ab_Run ab_mt 76 35 ls (.int y :: .int x :: st) w = ab_Run ab_mt 76 36 ls (.int (x + y) :: st) w := E_ib (f := fun x y => x + y) rfl
theorem e_76_36 {ls : ab_L} {st : List Value} {w : ab_W} (h : ab_isI (ls 3) = true) : ab_Run ab_mt 76 36 ls st w = ab_Run ab_mt 76 37 ls (ab_gv (ls 3) :: st) w := E_loadi (n := 1) rfl h
theorem e_76_37 {ls : ab_L} {st : List Value} {w : ab_W} {a : Nat} {i x : Int32} (h : ab_inW i (w.2 a) = true) : ab_Run ab_mt 76 37 ls (.int x :: .int i :: .ref a :: st) w = ab_Run ab_mt 76 38 ls st (w.1, ab_up w.2 a (ab_sI i.toNatClampNeg x (w.2 a))) := E_iast rfl h
theorem e_76_38 {ls : ab_L} {w : ab_W} : ab_Run ab_mt 76 38 ls [] w = some (.inl none, w) := E_ret0 rfl
theorem rv_76 {σ : ab_S} {t : Nat} {x0 : Int32} {x1 : Int32} {x2 : Int32} : ab_recv ab_mt 76 [.ref t, .int x0, .int x1, .int x2] σ = ab_isO 3 (σ t) := rfl
theorem e_77_0 {ls : ab_L} {st : List Value} {w : ab_W} (h : ab_isI (ls 1) = true) : ab_Run ab_mt 77 0 ls st w = ab_Run ab_mt 77 1 ls (ab_gv (ls 1) :: st) w := E_loadi (n := 1) rfl h
theorem e_77_1 {ls : ab_L} {st : List Value} {w : ab_W} {x : Int32} : ab_Run ab_mt 77 1 ls (.int x :: st) w = if x < 0 then ab_Run ab_mt 77 23 ls st w else ab_Run ab_mt 77 4 ls st w := E_if_lt rfl
theorem e_77_4 {ls : ab_L} {st : List Value} {w : ab_W} (h : ab_isI (ls 1) = true) : ab_Run ab_mt 77 4 ls st w = ab_Run ab_mt 77 5 ls (ab_gv (ls 1) :: st) w := E_loadi (n := 1) rfl h
theorem e_77_5 {ls : ab_L} {st : List Value} {w : ab_W} (h : ab_isR (ls 0) = true) : ab_Run ab_mt 77 5 ls st w = ab_Run ab_mt 77 6 ls (ab_gv (ls 0) :: st) w := E_loadr (n := 1) rfl h
theorem e_77_6 {ls : ab_L} {st : List Value} {w : ab_W} {a : Nat} (h : ab_isF 3 3 (w.2 a) = true) : ab_Run ab_mt 77 6 ls (.ref a :: st) w = ab_Run ab_mt 77 9 ls (ab_fv 3 (w.2 a) :: st) w := E_get rfl h
theorem e_77_9 {ls : ab_L} {st : List Value} {w : ab_W} {x y : Int32} : ab_Run ab_mt 77 9 ls (.int y :: .int x :: st) w = if y < x then ab_Run ab_mt 77 23 ls st w else ab_Run ab_mt 77 12 ls st w := E_ic_gt rfl
theorem e_77_12 {ls : ab_L} {st : List Value} {w : ab_W} (h : ab_isR (ls 0) = true) : ab_Run ab_mt 77 12 ls st w = ab_Run ab_mt 77 13 ls (ab_gv (ls 0) :: st) w := E_loadr (n := 1) rfl h
theorem e_77_13 {ls : ab_L} {st : List Value} {w : ab_W} {a : Nat} (h : ab_isF 3 3 (w.2 a) = true) : ab_Run ab_mt 77 13 ls (.ref a :: st) w = ab_Run ab_mt 77 16 ls (ab_fv 3 (w.2 a) :: st) w := E_get rfl h
theorem e_77_16 {ls : ab_L} {st : List Value} {w : ab_W} (h : ab_isR (ls 0) = true) : ab_Run ab_mt 77 16 ls st w = ab_Run ab_mt 77 17 ls (ab_gv (ls 0) :: st) w := E_loadr (n := 1) rfl h
theorem e_77_17 {ls : ab_L} {st : List Value} {w : ab_W} {a : Nat} (h : ab_isF 3 0 (w.2 a) = true) : ab_Run ab_mt 77 17 ls (.ref a :: st) w = ab_Run ab_mt 77 20 ls (ab_fv 0 (w.2 a) :: st) w := E_get rfl h
theorem e_77_20 {ls : ab_L} {st : List Value} {w : ab_W} {x y : Int32} : ab_Run ab_mt 77 20 ls (.int y :: .int x :: st) w = if x < y then ab_Run ab_mt 77 24 ls st w else ab_Run ab_mt 77 23 ls st w := E_ic_lt rfl
theorem e_77_23 {ls : ab_L} {w : ab_W} : ab_Run ab_mt 77 23 ls [] w = some (.inl none, w) := E_ret0 rfl
theorem e_77_24 {ls : ab_L} {st : List Value} {w : ab_W} (h : ab_isR (ls 0) = true) : ab_Run ab_mt 77 24 ls st w = ab_Run ab_mt 77 25 ls (ab_gv (ls 0) :: st) w := E_loadr (n := 1) rfl h
theorem e_77_25 {ls : ab_L} {st : List Value} {w : ab_W} {a : Nat} (h : ab_isF 3 2 (w.2 a) = true) : ab_Run ab_mt 77 25 ls (.ref a :: st) w = ab_Run ab_mt 77 28 ls (ab_fv 2 (w.2 a) :: st) w := E_get rfl h
theorem e_77_28 {ls : ab_L} {st : List Value} {w : ab_W} (h : ab_isI (ls 1) = true) : ab_Run ab_mt 77 28 ls st w = ab_Run ab_mt 77 29 ls (ab_gv (ls 1) :: st) w := E_loadi (n := 1) rfl h
theorem e_77_29 {ls : ab_L} {st : List Value} {w : ab_W} (h : ab_isR (ls 0) = true) : ab_Run ab_mt 77 29 ls st w = ab_Run ab_mt 77 30 ls (ab_gv (ls 0) :: st) w := E_loadr (n := 1) rfl h
theorem e_77_30 {ls : ab_L} {st : List Value} {w : ab_W} {a : Nat} (h : ab_isF 3 1 (w.2 a) = true) : ab_Run ab_mt 77 30 ls (.ref a :: st) w = ab_Run ab_mt 77 33 ls (ab_fv 1 (w.2 a) :: st) w := E_get rfl h
theorem e_77_33 {ls : ab_L} {st : List Value} {w : ab_W} {x y : Int32} : ab_Run ab_mt 77 33 ls (.int y :: .int x :: st) w = ab_Run ab_mt 77 34 ls (.int (x * y) :: st) w := E_ib (f := fun x y => x * y) rfl
theorem e_77_34 {ls : ab_L} {st : List Value} {w : ab_W} (h : ab_isR (ls 0) = true) : ab_Run ab_mt 77 34 ls st w = ab_Run ab_mt 77 35 ls (ab_gv (ls 0) :: st) w := E_loadr (n := 1) rfl h
theorem e_77_35 {ls : ab_L} {st : List Value} {w : ab_W} {a : Nat} (h : ab_isF 3 2 (w.2 a) = true) : ab_Run ab_mt 77 35 ls (.ref a :: st) w = ab_Run ab_mt 77 38 ls (ab_fv 2 (w.2 a) :: st) w := E_get rfl h
theorem e_77_38 {ls : ab_L} {st : List Value} {w : ab_W} (h : ab_isI (ls 1) = true) : ab_Run ab_mt 77 38 ls st w = ab_Run ab_mt 77 39 ls (ab_gv (ls 1) :: st) w := E_loadi (n := 1) rfl h
theorem e_77_39 {ls : ab_L} {st : List Value} {w : ab_W} : ab_Run ab_mt 77 39 ls st w = ab_Run ab_mt 77 40 ls (.int (nI 1) :: st) w := E_push (n := 1) rfl
theorem e_77_40 {ls : ab_L} {st : List Value} {w : ab_W} {x y : Int32} : ab_Run ab_mt 77 40 ls (.int y :: .int x :: st) w = ab_Run ab_mt 77 41 ls (.int (x + y) :: st) w := E_ib (f := fun x y => x + y) rfl
theorem e_77_41 {ls : ab_L} {st : List Value} {w : ab_W} (h : ab_isR (ls 0) = true) : ab_Run ab_mt 77 41 ls st w = ab_Run ab_mt 77 42 ls (ab_gv (ls 0) :: st) w := E_loadr (n := 1) rfl h
theorem e_77_42 {ls : ab_L} {st : List Value} {w : ab_W} {a : Nat} (h : ab_isF 3 1 (w.2 a) = true) : ab_Run ab_mt 77 42 ls (.ref a :: st) w = ab_Run ab_mt 77 45 ls (ab_fv 1 (w.2 a) :: st) w := E_get rfl h
theorem e_77_45 {ls : ab_L} {st : List Value} {w : ab_W} {x y : Int32} : ab_Run ab_mt 77 45 ls (.int y :: .int x :: st) w = ab_Run ab_mt 77 46 ls (.int (x * y) :: st) w := E_ib (f := fun x y => x * y) rfl
theorem e_77_46 {ls : ab_L} {st : List Value} {w : ab_W} (h : ab_isR (ls 0) = true) : ab_Run ab_mt 77 46 ls st w = ab_Run ab_mt 77 47 ls (ab_gv (ls 0) :: st) w := E_loadr (n := 1) rfl h
theorem e_77_47 {ls : ab_L} {st : List Value} {w : ab_W} {a : Nat} (h : ab_isF 3 3 (w.2 a) = true) : ab_Run ab_mt 77 47 ls (.ref a :: st) w = ab_Run ab_mt 77 50 ls (ab_fv 3 (w.2 a) :: st) w := E_get rfl h
theorem e_77_50 {ls : ab_L} {st : List Value} {w : ab_W} (h : ab_isI (ls 1) = true) : ab_Run ab_mt 77 50 ls st w = ab_Run ab_mt 77 51 ls (ab_gv (ls 1) :: st) w := E_loadi (n := 1) rfl h
theorem e_77_51 {ls : ab_L} {st : List Value} {w : ab_W} {x y : Int32} : ab_Run ab_mt 77 51 ls (.int y :: .int x :: st) w = ab_Run ab_mt 77 52 ls (.int (x - y) :: st) w := E_ib (f := fun x y => x - y) rfl
theorem e_77_52 {ls : ab_L} {st : List Value} {w : ab_W} (h : ab_isR (ls 0) = true) : ab_Run ab_mt 77 52 ls st w = ab_Run ab_mt 77 53 ls (ab_gv (ls 0) :: st) w := E_loadr (n := 1) rfl h
theorem e_77_53 {ls : ab_L} {st : List Value} {w : ab_W} {a : Nat} (h : ab_isF 3 1 (w.2 a) = true) : ab_Run ab_mt 77 53 ls (.ref a :: st) w = ab_Run ab_mt 77 56 ls (ab_fv 1 (w.2 a) :: st) w := E_get rfl h
theorem e_77_56 {ls : ab_L} {st : List Value} {w : ab_W} {x y : Int32} : ab_Run ab_mt 77 56 ls (.int y :: .int x :: st) w = ab_Run ab_mt 77 57 ls (.int (x * y) :: st) w := E_ib (f := fun x y => x * y) rfl
theorem e_77_57 {ls : ab_L} {st : List Value} {w : ab_W} {a b : Nat} {n dp sp : Int32} (h : ab_inC sp dp n (w.2 b) (w.2 a) = true) (h8 : ab_w8 st = true) : ab_Run ab_mt 77 57 ls (.int n :: .int dp :: .ref a :: .int sp :: .ref b :: st) w = ab_Run ab_mt 77 60 ls st (w.1, ab_up w.2 a (ab_sC sp.toNatClampNeg dp.toNatClampNeg n.toNatClampNeg (w.2 b) (w.2 a))) := E_copy rfl h h8
theorem e_77_60 {ls : ab_L} {st : List Value} {w : ab_W} (h : ab_isR (ls 0) = true) : ab_Run ab_mt 77 60 ls st w = ab_Run ab_mt 77 61 ls (ab_gv (ls 0) :: st) w := E_loadr (n := 1) rfl h
theorem e_77_61 {ls : ab_L} {st : List Value} {w : ab_W} {x : Nat} : ab_Run ab_mt 77 61 ls (.ref x :: st) w = ab_Run ab_mt 77 62 ls (.ref x :: .ref x :: st) w := E_dup_r rfl
theorem e_77_62 {ls : ab_L} {st : List Value} {w : ab_W} {a : Nat} (h : ab_isF 3 3 (w.2 a) = true) : ab_Run ab_mt 77 62 ls (.ref a :: st) w = ab_Run ab_mt 77 65 ls (ab_fv 3 (w.2 a) :: st) w := E_get rfl h
theorem e_77_65 {ls : ab_L} {st : List Value} {w : ab_W} : ab_Run ab_mt 77 65 ls st w = ab_Run ab_mt 77 66 ls (.int (nI 1) :: st) w := E_push (n := 1) rfl
theorem e_77_66 {ls : ab_L} {st : List Value} {w : ab_W} {x y : Int32} : ab_Run ab_mt 77 66 ls (.int y :: .int x :: st) w = ab_Run ab_mt 77 67 ls (.int (x + y) :: st) w := E_ib (f := fun x y => x + y) rfl
theorem e_77_67 {ls : ab_L} {st : List Value} {w : ab_W} {a : Nat} {x : Int32} (h : ab_isF 3 3 (w.2 a) = true) : ab_Run ab_mt 77 67 ls (.int x :: .ref a :: st) w = ab_Run ab_mt 77 70 ls st (w.1, ab_up w.2 a (ab_sf 3 (.int x) (w.2 a))) := E_put rfl h rfl
theorem e_77_70 {ls : ab_L} {w : ab_W} : ab_Run ab_mt 77 70 ls [] w = some (.inl none, w) := E_ret0 rfl
theorem rv_77 {σ : ab_S} {t : Nat} {x0 : Int32} : ab_recv ab_mt 77 [.ref t, .int x0] σ = ab_isO 3 (σ t) := rfl
theorem e_78_0 {ls : ab_L} {st : List Value} {w : ab_W} (h : ab_isI (ls 1) = true) : ab_Run ab_mt 78 0 ls st w = ab_Run ab_mt 78 1 ls (ab_gv (ls 1) :: st) w := E_loadi (n := 1) rfl h
theorem e_78_1 {ls : ab_L} {st : List Value} {w : ab_W} {x : Int32} : ab_Run ab_mt 78 1 ls (.int x :: st) w = if x < 0 then ab_Run ab_mt 78 12 ls st w else ab_Run ab_mt 78 4 ls st w := E_if_lt rfl
theorem e_78_4 {ls : ab_L} {st : List Value} {w : ab_W} (h : ab_isI (ls 1) = true) : ab_Run ab_mt 78 4 ls st w = ab_Run ab_mt 78 5 ls (ab_gv (ls 1) :: st) w := E_loadi (n := 1) rfl h
theorem e_78_5 {ls : ab_L} {st : List Value} {w : ab_W} (h : ab_isR (ls 0) = true) : ab_Run ab_mt 78 5 ls st w = ab_Run ab_mt 78 6 ls (ab_gv (ls 0) :: st) w := E_loadr (n := 1) rfl h
theorem e_78_6 {ls : ab_L} {st : List Value} {w : ab_W} {a : Nat} (h : ab_isF 3 3 (w.2 a) = true) : ab_Run ab_mt 78 6 ls (.ref a :: st) w = ab_Run ab_mt 78 9 ls (ab_fv 3 (w.2 a) :: st) w := E_get rfl h
theorem e_78_9 {ls : ab_L} {st : List Value} {w : ab_W} {x y : Int32} : ab_Run ab_mt 78 9 ls (.int y :: .int x :: st) w = if x < y then ab_Run ab_mt 78 13 ls st w else ab_Run ab_mt 78 12 ls st w := E_ic_lt rfl
theorem e_78_12 {ls : ab_L} {w : ab_W} : ab_Run ab_mt 78 12 ls [] w = some (.inl none, w) := E_ret0 rfl
theorem e_78_13 {ls : ab_L} {st : List Value} {w : ab_W} (h : ab_isR (ls 0) = true) : ab_Run ab_mt 78 13 ls st w = ab_Run ab_mt 78 14 ls (ab_gv (ls 0) :: st) w := E_loadr (n := 1) rfl h
theorem e_78_14 {ls : ab_L} {st : List Value} {w : ab_W} {x : Nat} : ab_Run ab_mt 78 14 ls (.ref x :: st) w = ab_Run ab_mt 78 15 ls (.ref x :: .ref x :: st) w := E_dup_r rfl
theorem e_78_15 {ls : ab_L} {st : List Value} {w : ab_W} {a : Nat} (h : ab_isF 3 3 (w.2 a) = true) : ab_Run ab_mt 78 15 ls (.ref a :: st) w = ab_Run ab_mt 78 18 ls (ab_fv 3 (w.2 a) :: st) w := E_get rfl h
theorem e_78_18 {ls : ab_L} {st : List Value} {w : ab_W} : ab_Run ab_mt 78 18 ls st w = ab_Run ab_mt 78 19 ls (.int (nI 1) :: st) w := E_push (n := 1) rfl
theorem e_78_19 {ls : ab_L} {st : List Value} {w : ab_W} {x y : Int32} : ab_Run ab_mt 78 19 ls (.int y :: .int x :: st) w = ab_Run ab_mt 78 20 ls (.int (x - y) :: st) w := E_ib (f := fun x y => x - y) rfl
theorem e_78_20 {ls : ab_L} {st : List Value} {w : ab_W} {a : Nat} {x : Int32} (h : ab_isF 3 3 (w.2 a) = true) : ab_Run ab_mt 78 20 ls (.int x :: .ref a :: st) w = ab_Run ab_mt 78 23 ls st (w.1, ab_up w.2 a (ab_sf 3 (.int x) (w.2 a))) := E_put rfl h rfl
theorem e_78_23 {ls : ab_L} {st : List Value} {w : ab_W} (h : ab_isR (ls 0) = true) : ab_Run ab_mt 78 23 ls st w = ab_Run ab_mt 78 24 ls (ab_gv (ls 0) :: st) w := E_loadr (n := 1) rfl h
theorem e_78_24 {ls : ab_L} {st : List Value} {w : ab_W} {a : Nat} (h : ab_isF 3 2 (w.2 a) = true) : ab_Run ab_mt 78 24 ls (.ref a :: st) w = ab_Run ab_mt 78 27 ls (ab_fv 2 (w.2 a) :: st) w := E_get rfl h
theorem e_78_27 {ls : ab_L} {st : List Value} {w : ab_W} (h : ab_isI (ls 1) = true) : ab_Run ab_mt 78 27 ls st w = ab_Run ab_mt 78 28 ls (ab_gv (ls 1) :: st) w := E_loadi (n := 1) rfl h
theorem e_78_28 {ls : ab_L} {st : List Value} {w : ab_W} : ab_Run ab_mt 78 28 ls st w = ab_Run ab_mt 78 29 ls (.int (nI 1) :: st) w := E_push (n := 1) rfl
theorem e_78_29 {ls : ab_L} {st : List Value} {w : ab_W} {x y : Int32} : ab_Run ab_mt 78 29 ls (.int y :: .int x :: st) w = ab_Run ab_mt 78 30 ls (.int (x + y) :: st) w := E_ib (f := fun x y => x + y) rfl
theorem e_78_30 {ls : ab_L} {st : List Value} {w : ab_W} (h : ab_isR (ls 0) = true) : ab_Run ab_mt 78 30 ls st w = ab_Run ab_mt 78 31 ls (ab_gv (ls 0) :: st) w := E_loadr (n := 1) rfl h
theorem e_78_31 {ls : ab_L} {st : List Value} {w : ab_W} {a : Nat} (h : ab_isF 3 1 (w.2 a) = true) : ab_Run ab_mt 78 31 ls (.ref a :: st) w = ab_Run ab_mt 78 34 ls (ab_fv 1 (w.2 a) :: st) w := E_get rfl h
theorem e_78_34 {ls : ab_L} {st : List Value} {w : ab_W} {x y : Int32} : ab_Run ab_mt 78 34 ls (.int y :: .int x :: st) w = ab_Run ab_mt 78 35 ls (.int (x * y) :: st) w := E_ib (f := fun x y => x * y) rfl
theorem e_78_35 {ls : ab_L} {st : List Value} {w : ab_W} (h : ab_isR (ls 0) = true) : ab_Run ab_mt 78 35 ls st w = ab_Run ab_mt 78 36 ls (ab_gv (ls 0) :: st) w := E_loadr (n := 1) rfl h
theorem e_78_36 {ls : ab_L} {st : List Value} {w : ab_W} {a : Nat} (h : ab_isF 3 2 (w.2 a) = true) : ab_Run ab_mt 78 36 ls (.ref a :: st) w = ab_Run ab_mt 78 39 ls (ab_fv 2 (w.2 a) :: st) w := E_get rfl h
theorem e_78_39 {ls : ab_L} {st : List Value} {w : ab_W} (h : ab_isI (ls 1) = true) : ab_Run ab_mt 78 39 ls st w = ab_Run ab_mt 78 40 ls (ab_gv (ls 1) :: st) w := E_loadi (n := 1) rfl h
theorem e_78_40 {ls : ab_L} {st : List Value} {w : ab_W} (h : ab_isR (ls 0) = true) : ab_Run ab_mt 78 40 ls st w = ab_Run ab_mt 78 41 ls (ab_gv (ls 0) :: st) w := E_loadr (n := 1) rfl h
theorem e_78_41 {ls : ab_L} {st : List Value} {w : ab_W} {a : Nat} (h : ab_isF 3 1 (w.2 a) = true) : ab_Run ab_mt 78 41 ls (.ref a :: st) w = ab_Run ab_mt 78 44 ls (ab_fv 1 (w.2 a) :: st) w := E_get rfl h
theorem e_78_44 {ls : ab_L} {st : List Value} {w : ab_W} {x y : Int32} : ab_Run ab_mt 78 44 ls (.int y :: .int x :: st) w = ab_Run ab_mt 78 45 ls (.int (x * y) :: st) w := E_ib (f := fun x y => x * y) rfl
theorem e_78_45 {ls : ab_L} {st : List Value} {w : ab_W} (h : ab_isR (ls 0) = true) : ab_Run ab_mt 78 45 ls st w = ab_Run ab_mt 78 46 ls (ab_gv (ls 0) :: st) w := E_loadr (n := 1) rfl h
theorem e_78_46 {ls : ab_L} {st : List Value} {w : ab_W} {a : Nat} (h : ab_isF 3 3 (w.2 a) = true) : ab_Run ab_mt 78 46 ls (.ref a :: st) w = ab_Run ab_mt 78 49 ls (ab_fv 3 (w.2 a) :: st) w := E_get rfl h
theorem e_78_49 {ls : ab_L} {st : List Value} {w : ab_W} (h : ab_isI (ls 1) = true) : ab_Run ab_mt 78 49 ls st w = ab_Run ab_mt 78 50 ls (ab_gv (ls 1) :: st) w := E_loadi (n := 1) rfl h
theorem e_78_50 {ls : ab_L} {st : List Value} {w : ab_W} {x y : Int32} : ab_Run ab_mt 78 50 ls (.int y :: .int x :: st) w = ab_Run ab_mt 78 51 ls (.int (x - y) :: st) w := E_ib (f := fun x y => x - y) rfl
theorem e_78_51 {ls : ab_L} {st : List Value} {w : ab_W} (h : ab_isR (ls 0) = true) : ab_Run ab_mt 78 51 ls st w = ab_Run ab_mt 78 52 ls (ab_gv (ls 0) :: st) w := E_loadr (n := 1) rfl h
theorem e_78_52 {ls : ab_L} {st : List Value} {w : ab_W} {a : Nat} (h : ab_isF 3 1 (w.2 a) = true) : ab_Run ab_mt 78 52 ls (.ref a :: st) w = ab_Run ab_mt 78 55 ls (ab_fv 1 (w.2 a) :: st) w := E_get rfl h
theorem e_78_55 {ls : ab_L} {st : List Value} {w : ab_W} {x y : Int32} : ab_Run ab_mt 78 55 ls (.int y :: .int x :: st) w = ab_Run ab_mt 78 56 ls (.int (x * y) :: st) w := E_ib (f := fun x y => x * y) rfl
theorem e_78_56 {ls : ab_L} {st : List Value} {w : ab_W} {a b : Nat} {n dp sp : Int32} (h : ab_inC sp dp n (w.2 b) (w.2 a) = true) (h8 : ab_w8 st = true) : ab_Run ab_mt 78 56 ls (.int n :: .int dp :: .ref a :: .int sp :: .ref b :: st) w = ab_Run ab_mt 78 59 ls st (w.1, ab_up w.2 a (ab_sC sp.toNatClampNeg dp.toNatClampNeg n.toNatClampNeg (w.2 b) (w.2 a))) := E_copy rfl h h8
theorem e_78_59 {ls : ab_L} {w : ab_W} : ab_Run ab_mt 78 59 ls [] w = some (.inl none, w) := E_ret0 rfl
theorem rv_78 {σ : ab_S} {t : Nat} {x0 : Int32} : ab_recv ab_mt 78 [.ref t, .int x0] σ = ab_isO 3 (σ t) := rfl
theorem e_79_0 {ls : ab_L} {st : List Value} {w : ab_W} (h : ab_isR (ls 0) = true) : ab_Run ab_mt 79 0 ls st w = ab_Run ab_mt 79 1 ls (ab_gv (ls 0) :: st) w := E_loadr (n := 1) rfl h
theorem e_79_1 {ls : ab_L} {st : List Value} {w : ab_W} (h : ab_isR (ls 0) = true) : ab_Run ab_mt 79 1 ls st w = ab_Run ab_mt 79 2 ls (ab_gv (ls 0) :: st) w := E_loadr (n := 1) rfl h
theorem e_79_2 {ls : ab_L} {st : List Value} {w : ab_W} {a : Nat} (h : ab_isF 3 3 (w.2 a) = true) : ab_Run ab_mt 79 2 ls (.ref a :: st) w = ab_Run ab_mt 79 5 ls (ab_fv 3 (w.2 a) :: st) w := E_get rfl h
theorem e_79_5 {ls : ab_L} {st : List Value} {w : ab_W} {v0 v1 : Value} (h1 : ab_recv ab_mt 77 [v0, v1] w.2 = true) (h8 : ab_w8 st = true) : ab_Run ab_mt 79 5 ls (v1 :: v0 :: st) w = ab_aft 77 79 5 ls st (ab_Cl 77 [v0, v1] w) := E_call2 rfl h1 h8
theorem e_79_8 {ls : ab_L} {st : List Value} {w : ab_W} : ab_Run ab_mt 79 8 ls st w = ab_Run ab_mt 79 9 ls (.int (nI 0) :: st) w := E_push (n := 1) rfl
theorem e_79_9 {ls : ab_L} {st : List Value} {w : ab_W} {x : Int32} : ab_Run ab_mt 79 9 ls (.int x :: st) w = ab_Run ab_mt 79 10 (ab_l1 ls 3 (.int x)) st w := E_stori (n := 1) rfl
theorem e_79_10 {ls : ab_L} {st : List Value} {w : ab_W} (h : ab_isI (ls 3) = true) : ab_Run ab_mt 79 10 ls st w = ab_Run ab_mt 79 11 ls (ab_gv (ls 3) :: st) w := E_loadi (n := 1) rfl h
theorem e_79_11 {ls : ab_L} {st : List Value} {w : ab_W} (h : ab_isR (ls 0) = true) : ab_Run ab_mt 79 11 ls st w = ab_Run ab_mt 79 12 ls (ab_gv (ls 0) :: st) w := E_loadr (n := 1) rfl h
theorem e_79_12 {ls : ab_L} {st : List Value} {w : ab_W} {a : Nat} (h : ab_isF 3 1 (w.2 a) = true) : ab_Run ab_mt 79 12 ls (.ref a :: st) w = ab_Run ab_mt 79 15 ls (ab_fv 1 (w.2 a) :: st) w := E_get rfl h
theorem e_79_15 {ls : ab_L} {st : List Value} {w : ab_W} {x y : Int32} : ab_Run ab_mt 79 15 ls (.int y :: .int x :: st) w = if y ≤ x then ab_Run ab_mt 79 41 ls st w else ab_Run ab_mt 79 18 ls st w := E_ic_ge rfl
theorem e_79_18 {ls : ab_L} {st : List Value} {w : ab_W} (h : ab_isR (ls 0) = true) : ab_Run ab_mt 79 18 ls st w = ab_Run ab_mt 79 19 ls (ab_gv (ls 0) :: st) w := E_loadr (n := 1) rfl h
theorem e_79_19 {ls : ab_L} {st : List Value} {w : ab_W} (h : ab_isR (ls 0) = true) : ab_Run ab_mt 79 19 ls st w = ab_Run ab_mt 79 20 ls (ab_gv (ls 0) :: st) w := E_loadr (n := 1) rfl h
theorem e_79_20 {ls : ab_L} {st : List Value} {w : ab_W} {a : Nat} (h : ab_isF 3 3 (w.2 a) = true) : ab_Run ab_mt 79 20 ls (.ref a :: st) w = ab_Run ab_mt 79 23 ls (ab_fv 3 (w.2 a) :: st) w := E_get rfl h
theorem e_79_23 {ls : ab_L} {st : List Value} {w : ab_W} : ab_Run ab_mt 79 23 ls st w = ab_Run ab_mt 79 24 ls (.int (nI 1) :: st) w := E_push (n := 1) rfl
theorem e_79_24 {ls : ab_L} {st : List Value} {w : ab_W} {x y : Int32} : ab_Run ab_mt 79 24 ls (.int y :: .int x :: st) w = ab_Run ab_mt 79 25 ls (.int (x - y) :: st) w := E_ib (f := fun x y => x - y) rfl
theorem e_79_25 {ls : ab_L} {st : List Value} {w : ab_W} (h : ab_isI (ls 3) = true) : ab_Run ab_mt 79 25 ls st w = ab_Run ab_mt 79 26 ls (ab_gv (ls 3) :: st) w := E_loadi (n := 1) rfl h
theorem e_79_26 {ls : ab_L} {st : List Value} {w : ab_W} (h : ab_isR (ls 1) = true) : ab_Run ab_mt 79 26 ls st w = ab_Run ab_mt 79 27 ls (ab_gv (ls 1) :: st) w := E_loadr (n := 1) rfl h
theorem e_79_27 {ls : ab_L} {st : List Value} {w : ab_W} (h : ab_isI (ls 2) = true) : ab_Run ab_mt 79 27 ls st w = ab_Run ab_mt 79 28 ls (ab_gv (ls 2) :: st) w := E_loadi (n := 1) rfl h
theorem e_79_28 {ls : ab_L} {st : List Value} {w : ab_W} (h : ab_isI (ls 3) = true) : ab_Run ab_mt 79 28 ls st w = ab_Run ab_mt 79 29 ls (ab_gv (ls 3) :: st) w := E_loadi (n := 1) rfl h
theorem e_79_29 {ls : ab_L} {st : List Value} {w : ab_W} {v0 v1 v2 : Value} (h1 : ab_recv ab_mt 75 [v0, v1, v2] w.2 = true) (h8 : ab_w8 st = true) : ab_Run ab_mt 79 29 ls (v2 :: v1 :: v0 :: st) w = ab_aft 75 79 29 ls st (ab_Cl 75 [v0, v1, v2] w) := E_call3 rfl h1 h8
theorem e_79_32 {ls : ab_L} {st : List Value} {w : ab_W} {v0 v1 v2 v3 : Value} (h1 : ab_recv ab_mt 76 [v0, v1, v2, v3] w.2 = true) (h8 : ab_w8 st = true) : ab_Run ab_mt 79 32 ls (v3 :: v2 :: v1 :: v0 :: st) w = ab_aft 76 79 32 ls st (ab_Cl 76 [v0, v1, v2, v3] w) := E_call4 rfl h1 h8
theorem e_79_35 {ls : ab_L} {st : List Value} {w : ab_W} (h : ab_isI (ls 3) = true) : ab_Run ab_mt 79 35 ls st w = ab_Run ab_mt 79 38 (ab_l1 ls 3 (.int (ab_gi (ls 3) + (nI 1)))) st w := E_iinc rfl h
theorem e_79_38 {ls : ab_L} {st : List Value} {w : ab_W} : ab_Run ab_mt 79 38 ls st w = ab_Run ab_mt 79 10 ls st w := E_goto rfl
theorem e_79_41 {ls : ab_L} {w : ab_W} : ab_Run ab_mt 79 41 ls [] w = some (.inl none, w) := E_ret0 rfl
theorem rv_79 {σ : ab_S} {t : Nat} {x0 : Nat} {x1 : Int32} : ab_recv ab_mt 79 [.ref t, .ref x0, .int x1] σ = ab_isO 3 (σ t) := rfl
theorem e_80_0 {ls : ab_L} {st : List Value} {w : ab_W} (h : ab_isR (ls 0) = true) : ab_Run ab_mt 80 0 ls st w = ab_Run ab_mt 80 1 ls (ab_gv (ls 0) :: st) w := E_loadr (n := 1) rfl h
theorem e_80_1 {ls : ab_L} {st : List Value} {w : ab_W} (h : ab_isR (ls 1) = true) : ab_Run ab_mt 80 1 ls st w = ab_Run ab_mt 80 2 ls (ab_gv (ls 1) :: st) w := E_loadr (n := 1) rfl h
theorem e_80_2 {ls : ab_L} {st : List Value} {w : ab_W} {a : Nat} (h : ab_isF 3 3 (w.2 a) = true) : ab_Run ab_mt 80 2 ls (.ref a :: st) w = ab_Run ab_mt 80 5 ls (ab_fv 3 (w.2 a) :: st) w := E_get rfl h
theorem e_80_5 {ls : ab_L} {st : List Value} {w : ab_W} (h : ab_isR (ls 0) = true) : ab_Run ab_mt 80 5 ls st w = ab_Run ab_mt 80 6 ls (ab_gv (ls 0) :: st) w := E_loadr (n := 1) rfl h
theorem e_80_6 {ls : ab_L} {st : List Value} {w : ab_W} {a : Nat} (h : ab_isF 3 0 (w.2 a) = true) : ab_Run ab_mt 80 6 ls (.ref a :: st) w = ab_Run ab_mt 80 9 ls (ab_fv 0 (w.2 a) :: st) w := E_get rfl h
theorem e_80_9 {ls : ab_L} {st : List Value} {w : ab_W} {x y : Int32} (h8 : ab_w8 st = true) : ab_Run ab_mt 80 9 ls (.int y :: .int x :: st) w = ab_Run ab_mt 80 12 ls (.int (if y < x then y else x) :: st) w := E_mini rfl h8
theorem e_80_12 {ls : ab_L} {st : List Value} {w : ab_W} {a : Nat} {x : Int32} (h : ab_isF 3 3 (w.2 a) = true) : ab_Run ab_mt 80 12 ls (.int x :: .ref a :: st) w = ab_Run ab_mt 80 15 ls st (w.1, ab_up w.2 a (ab_sf 3 (.int x) (w.2 a))) := E_put rfl h rfl
theorem e_80_15 {ls : ab_L} {st : List Value} {w : ab_W} (h : ab_isR (ls 1) = true) : ab_Run ab_mt 80 15 ls st w = ab_Run ab_mt 80 16 ls (ab_gv (ls 1) :: st) w := E_loadr (n := 1) rfl h
theorem e_80_16 {ls : ab_L} {st : List Value} {w : ab_W} {a : Nat} (h : ab_isF 3 2 (w.2 a) = true) : ab_Run ab_mt 80 16 ls (.ref a :: st) w = ab_Run ab_mt 80 19 ls (ab_fv 2 (w.2 a) :: st) w := E_get rfl h
theorem e_80_19 {ls : ab_L} {st : List Value} {w : ab_W} : ab_Run ab_mt 80 19 ls st w = ab_Run ab_mt 80 20 ls (.int (nI 0) :: st) w := E_push (n := 1) rfl
theorem e_80_20 {ls : ab_L} {st : List Value} {w : ab_W} (h : ab_isR (ls 0) = true) : ab_Run ab_mt 80 20 ls st w = ab_Run ab_mt 80 21 ls (ab_gv (ls 0) :: st) w := E_loadr (n := 1) rfl h
theorem e_80_21 {ls : ab_L} {st : List Value} {w : ab_W} {a : Nat} (h : ab_isF 3 2 (w.2 a) = true) : ab_Run ab_mt 80 21 ls (.ref a :: st) w = ab_Run ab_mt 80 24 ls (ab_fv 2 (w.2 a) :: st) w := E_get rfl h
theorem e_80_24 {ls : ab_L} {st : List Value} {w : ab_W} : ab_Run ab_mt 80 24 ls st w = ab_Run ab_mt 80 25 ls (.int (nI 0) :: st) w := E_push (n := 1) rfl
theorem e_80_25 {ls : ab_L} {st : List Value} {w : ab_W} (h : ab_isR (ls 0) = true) : ab_Run ab_mt 80 25 ls st w = ab_Run ab_mt 80 26 ls (ab_gv (ls 0) :: st) w := E_loadr (n := 1) rfl h
theorem e_80_26 {ls : ab_L} {st : List Value} {w : ab_W} {a : Nat} (h : ab_isF 3 3 (w.2 a) = true) : ab_Run ab_mt 80 26 ls (.ref a :: st) w = ab_Run ab_mt 80 29 ls (ab_fv 3 (w.2 a) :: st) w := E_get rfl h
theorem e_80_29 {ls : ab_L} {st : List Value} {w : ab_W} (h : ab_isR (ls 0) = true) : ab_Run ab_mt 80 29 ls st w = ab_Run ab_mt 80 30 ls (ab_gv (ls 0) :: st) w := E_loadr (n := 1) rfl h
theorem e_80_30 {ls : ab_L} {st : List Value} {w : ab_W} {a : Nat} (h : ab_isF 3 1 (w.2 a) = true) : ab_Run ab_mt 80 30 ls (.ref a :: st) w = ab_Run ab_mt 80 33 ls (ab_fv 1 (w.2 a) :: st) w := E_get rfl h
theorem e_80_33 {ls : ab_L} {st : List Value} {w : ab_W} {x y : Int32} : ab_Run ab_mt 80 33 ls (.int y :: .int x :: st) w = ab_Run ab_mt 80 34 ls (.int (x * y) :: st) w := E_ib (f := fun x y => x * y) rfl
theorem e_80_34 {ls : ab_L} {st : List Value} {w : ab_W} {a b : Nat} {n dp sp : Int32} (h : ab_inC sp dp n (w.2 b) (w.2 a) = true) (h8 : ab_w8 st = true) : ab_Run ab_mt 80 34 ls (.int n :: .int dp :: .ref a :: .int sp :: .ref b :: st) w = ab_Run ab_mt 80 37 ls st (w.1, ab_up w.2 a (ab_sC sp.toNatClampNeg dp.toNatClampNeg n.toNatClampNeg (w.2 b) (w.2 a))) := E_copy rfl h h8
theorem e_80_37 {ls : ab_L} {w : ab_W} : ab_Run ab_mt 80 37 ls [] w = some (.inl none, w) := E_ret0 rfl
theorem rv_80 {σ : ab_S} {t : Nat} {x0 : Nat} : ab_recv ab_mt 80 [.ref t, .ref x0] σ = ab_isO 3 (σ t) := rfl
theorem e_81_0 {ls : ab_L} {st : List Value} {w : ab_W} (h : ab_isR (ls 0) = true) : ab_Run ab_mt 81 0 ls st w = ab_Run ab_mt 81 1 ls (ab_gv (ls 0) :: st) w := E_loadr (n := 1) rfl h
theorem e_81_1 {ls : ab_L} {st : List Value} {w : ab_W} {a : Nat} (h8 : ab_w8 st = true) : ab_Run ab_mt 81 1 ls (.ref a :: st) w = ab_Run ab_mt 81 4 ls st w := E_oini rfl h8
theorem e_81_4 {ls : ab_L} {w : ab_W} : ab_Run ab_mt 81 4 ls [] w = some (.inl none, w) := E_ret0 rfl
theorem rv_81 {σ : ab_S} {t : Nat} : ab_recv ab_mt 81 [.ref t] σ = ab_isO 4 (σ t) := rfl
theorem e_82_0 {ls : ab_L} {st : List Value} {w : ab_W} (h : ab_isR (ls 0) = true) : ab_Run ab_mt 82 0 ls st w = ab_Run ab_mt 82 1 ls (ab_gv (ls 0) :: st) w := E_loadr (n := 1) rfl h
theorem e_82_1 {ls : ab_L} {st : List Value} {w : ab_W} (h : ab_isI (ls 1) = true) : ab_Run ab_mt 82 1 ls st w = ab_Run ab_mt 82 2 ls (ab_gv (ls 1) :: st) w := E_loadi (n := 1) rfl h
theorem e_82_2 {ls : ab_L} {st : List Value} {w : ab_W} {a : Nat} {x : Int32} (h : ab_isF 4 0 (w.2 a) = true) : ab_Run ab_mt 82 2 ls (.int x :: .ref a :: st) w = ab_Run ab_mt 82 5 ls st (w.1, ab_up w.2 a (ab_sf 0 (.int x) (w.2 a))) := E_put rfl h rfl
theorem e_82_5 {ls : ab_L} {st : List Value} {w : ab_W} (h : ab_isR (ls 0) = true) : ab_Run ab_mt 82 5 ls st w = ab_Run ab_mt 82 6 ls (ab_gv (ls 0) :: st) w := E_loadr (n := 1) rfl h
theorem e_82_6 {ls : ab_L} {st : List Value} {w : ab_W} (h : ab_isI (ls 2) = true) : ab_Run ab_mt 82 6 ls st w = ab_Run ab_mt 82 7 ls (ab_gv (ls 2) :: st) w := E_loadi (n := 1) rfl h
theorem e_82_7 {ls : ab_L} {st : List Value} {w : ab_W} {a : Nat} {x : Int32} (h : ab_isF 4 1 (w.2 a) = true) : ab_Run ab_mt 82 7 ls (.int x :: .ref a :: st) w = ab_Run ab_mt 82 10 ls st (w.1, ab_up w.2 a (ab_sf 1 (.int x) (w.2 a))) := E_put rfl h rfl
theorem e_82_10 {ls : ab_L} {st : List Value} {w : ab_W} (h : ab_isR (ls 0) = true) : ab_Run ab_mt 82 10 ls st w = ab_Run ab_mt 82 11 ls (ab_gv (ls 0) :: st) w := E_loadr (n := 1) rfl h
theorem e_82_11 {ls : ab_L} {st : List Value} {w : ab_W} (h : ab_isI (ls 3) = true) : ab_Run ab_mt 82 11 ls st w = ab_Run ab_mt 82 12 ls (ab_gv (ls 3) :: st) w := E_loadi (n := 1) rfl h
theorem e_82_12 {ls : ab_L} {st : List Value} {w : ab_W} {a : Nat} {x : Int32} (h : ab_isF 4 2 (w.2 a) = true) : ab_Run ab_mt 82 12 ls (.int x :: .ref a :: st) w = ab_Run ab_mt 82 15 ls st (w.1, ab_up w.2 a (ab_sf 2 (.int x) (w.2 a))) := E_put rfl h rfl
theorem e_82_15 {ls : ab_L} {st : List Value} {w : ab_W} (h : ab_isR (ls 0) = true) : ab_Run ab_mt 82 15 ls st w = ab_Run ab_mt 82 16 ls (ab_gv (ls 0) :: st) w := E_loadr (n := 1) rfl h
theorem e_82_16 {ls : ab_L} {st : List Value} {w : ab_W} : ab_Run ab_mt 82 16 ls st w = ab_Run ab_mt 82 17 ls (.int (nI 0) :: st) w := E_push (n := 1) rfl
theorem e_82_17 {ls : ab_L} {st : List Value} {w : ab_W} {a : Nat} {x : Int32} (h : ab_isF 4 3 (w.2 a) = true) : ab_Run ab_mt 82 17 ls (.int x :: .ref a :: st) w = ab_Run ab_mt 82 20 ls st (w.1, ab_up w.2 a (ab_sf 3 (.int x) (w.2 a))) := E_put rfl h rfl
theorem e_82_20 {ls : ab_L} {st : List Value} {w : ab_W} (h : ab_isR (ls 0) = true) : ab_Run ab_mt 82 20 ls st w = ab_Run ab_mt 82 21 ls (ab_gv (ls 0) :: st) w := E_loadr (n := 1) rfl h
theorem e_82_21 {ls : ab_L} {st : List Value} {w : ab_W} (h : ab_isI (ls 1) = true) : ab_Run ab_mt 82 21 ls st w = ab_Run ab_mt 82 22 ls (ab_gv (ls 1) :: st) w := E_loadi (n := 1) rfl h
theorem e_82_22 {ls : ab_L} {st : List Value} {w : ab_W} {a : Nat} {x : Int32} (h : ab_isF 4 4 (w.2 a) = true) : ab_Run ab_mt 82 22 ls (.int x :: .ref a :: st) w = ab_Run ab_mt 82 25 ls st (w.1, ab_up w.2 a (ab_sf 4 (.int x) (w.2 a))) := E_put rfl h rfl
theorem e_82_25 {ls : ab_L} {st : List Value} {w : ab_W} (h : ab_isR (ls 0) = true) : ab_Run ab_mt 82 25 ls st w = ab_Run ab_mt 82 26 ls (ab_gv (ls 0) :: st) w := E_loadr (n := 1) rfl h
theorem e_82_26 {ls : ab_L} {st : List Value} {w : ab_W} : ab_Run ab_mt 82 26 ls st w = ab_Run ab_mt 82 27 ls (.int (nI 0) :: st) w := E_push (n := 1) rfl
theorem e_82_27 {ls : ab_L} {st : List Value} {w : ab_W} {a : Nat} {x : Int32} (h : ab_isF 4 5 (w.2 a) = true) : ab_Run ab_mt 82 27 ls (.int x :: .ref a :: st) w = ab_Run ab_mt 82 30 ls st (w.1, ab_up w.2 a (ab_sf 5 (.int x) (w.2 a))) := E_put rfl h rfl
theorem e_82_30 {ls : ab_L} {st : List Value} {w : ab_W} (h : ab_isR (ls 0) = true) : ab_Run ab_mt 82 30 ls st w = ab_Run ab_mt 82 31 ls (ab_gv (ls 0) :: st) w := E_loadr (n := 1) rfl h
theorem e_82_31 {ls : ab_L} {st : List Value} {w : ab_W} : ab_Run ab_mt 82 31 ls st w = ab_Run ab_mt 82 32 ls (.int (nI 1) :: st) w := E_push (n := 1) rfl
theorem e_82_32 {ls : ab_L} {st : List Value} {w : ab_W} {a : Nat} {x : Int32} (h : ab_isF 4 6 (w.2 a) = true) (h2 : ab_fit 2 (.int x) = true) : ab_Run ab_mt 82 32 ls (.int x :: .ref a :: st) w = ab_Run ab_mt 82 35 ls st (w.1, ab_up w.2 a (ab_sf 6 (.int x) (w.2 a))) := E_put rfl h h2
theorem e_82_35 {ls : ab_L} {st : List Value} {w : ab_W} (h : ab_isR (ls 0) = true) : ab_Run ab_mt 82 35 ls st w = ab_Run ab_mt 82 36 ls (ab_gv (ls 0) :: st) w := E_loadr (n := 1) rfl h
theorem e_82_36 {ls : ab_L} {st : List Value} {w : ab_W} : ab_Run ab_mt 82 36 ls st w = ab_Run ab_mt 82 37 ls (.long (lN 0) :: st) w := E_push (n := 1) rfl
theorem e_82_37 {ls : ab_L} {st : List Value} {w : ab_W} {a : Nat} {x : Int64} (h : ab_isF 4 7 (w.2 a) = true) : ab_Run ab_mt 82 37 ls (.long x :: .ref a :: st) w = ab_Run ab_mt 82 40 ls st (w.1, ab_up w.2 a (ab_sf 7 (.long x) (w.2 a))) := E_put rfl h rfl
theorem e_82_40 {ls : ab_L} {st : List Value} {w : ab_W} (h : ab_isR (ls 0) = true) : ab_Run ab_mt 82 40 ls st w = ab_Run ab_mt 82 41 ls (ab_gv (ls 0) :: st) w := E_loadr (n := 1) rfl h
theorem e_82_41 {ls : ab_L} {st : List Value} {w : ab_W} : ab_Run ab_mt 82 41 ls st w = ab_Run ab_mt 82 42 ls (.int (nI 0) :: st) w := E_push (n := 1) rfl
theorem e_82_42 {ls : ab_L} {st : List Value} {w : ab_W} {a : Nat} {x : Int32} (h : ab_isF 4 8 (w.2 a) = true) : ab_Run ab_mt 82 42 ls (.int x :: .ref a :: st) w = ab_Run ab_mt 82 45 ls st (w.1, ab_up w.2 a (ab_sf 8 (.int x) (w.2 a))) := E_put rfl h rfl
theorem e_82_45 {ls : ab_L} {st : List Value} {w : ab_W} (h : ab_isR (ls 0) = true) : ab_Run ab_mt 82 45 ls st w = ab_Run ab_mt 82 46 ls (ab_gv (ls 0) :: st) w := E_loadr (n := 1) rfl h
theorem e_82_46 {ls : ab_L} {st : List Value} {w : ab_W} : ab_Run ab_mt 82 46 ls st w = ab_Run ab_mt 82 47 ls (.int (nI 0) :: st) w := E_push (n := 1) rfl
theorem e_82_47 {ls : ab_L} {st : List Value} {w : ab_W} {a : Nat} {x : Int32} (h : ab_isF 4 9 (w.2 a) = true) : ab_Run ab_mt 82 47 ls (.int x :: .ref a :: st) w = ab_Run ab_mt 82 50 ls st (w.1, ab_up w.2 a (ab_sf 9 (.int x) (w.2 a))) := E_put rfl h rfl
theorem e_82_50 {ls : ab_L} {st : List Value} {w : ab_W} (h : ab_isR (ls 0) = true) : ab_Run ab_mt 82 50 ls st w = ab_Run ab_mt 82 51 ls (ab_gv (ls 0) :: st) w := E_loadr (n := 1) rfl h
theorem e_82_51 {ls : ab_L} {st : List Value} {w : ab_W} : ab_Run ab_mt 82 51 ls st w = ab_Run ab_mt 82 52 ls (.int (nI 0) :: st) w := E_push (n := 1) rfl
theorem e_82_52 {ls : ab_L} {st : List Value} {w : ab_W} {a : Nat} {x : Int32} (h : ab_isF 4 10 (w.2 a) = true) : ab_Run ab_mt 82 52 ls (.int x :: .ref a :: st) w = ab_Run ab_mt 82 55 ls st (w.1, ab_up w.2 a (ab_sf 10 (.int x) (w.2 a))) := E_put rfl h rfl
theorem e_82_55 {ls : ab_L} {w : ab_W} : ab_Run ab_mt 82 55 ls [] w = some (.inl none, w) := E_ret0 rfl
theorem rv_82 {σ : ab_S} {t : Nat} {x0 : Int32} {x1 : Int32} {x2 : Int32} : ab_recv ab_mt 82 [.ref t, .int x0, .int x1, .int x2] σ = ab_isO 4 (σ t) := rfl
theorem e_83_0 {ls : ab_L} {st : List Value} {w : ab_W} (h : ab_isR (ls 0) = true) : ab_Run ab_mt 83 0 ls st w = ab_Run ab_mt 83 1 ls (ab_gv (ls 0) :: st) w := E_loadr (n := 1) rfl h
theorem e_83_1 {ls : ab_L} {st : List Value} {w : ab_W} (h : ab_isR (ls 1) = true) : ab_Run ab_mt 83 1 ls st w = ab_Run ab_mt 83 2 ls (ab_gv (ls 1) :: st) w := E_loadr (n := 1) rfl h
theorem e_83_2 {ls : ab_L} {st : List Value} {w : ab_W} (h : ab_isR (ls 1) = true) : ab_Run ab_mt 83 2 ls st w = ab_Run ab_mt 83 3 ls (ab_gv (ls 1) :: st) w := E_loadr (n := 1) rfl h
theorem e_83_3 {ls : ab_L} {st : List Value} {w : ab_W} {a : Nat} (h : ab_isF 1 7 (w.2 a) = true) : ab_Run ab_mt 83 3 ls (.ref a :: st) w = ab_Run ab_mt 83 6 ls (ab_fv 7 (w.2 a) :: st) w := E_get rfl h
theorem e_83_6 {ls : ab_L} {st : List Value} {w : ab_W} {v0 v1 v2 : Value} (h1 : ab_recv ab_mt 84 [v0, v1, v2] w.2 = true) (h8 : ab_w8 st = true) : ab_Run ab_mt 83 6 ls (v2 :: v1 :: v0 :: st) w = ab_aft 84 83 6 ls st (ab_Cl 84 [v0, v1, v2] w) := E_call3 rfl h1 h8
theorem e_83_9 {ls : ab_L} {w : ab_W} {x : Int64} : ab_Run ab_mt 83 9 ls [.long x] w = some (.inl (some (.long x)), w) := E_retl rfl
theorem rv_83 {σ : ab_S} {t : Nat} {x0 : Nat} : ab_recv ab_mt 83 [.ref t, .ref x0] σ = ab_isO 4 (σ t) := rfl
theorem e_84_0 {ls : ab_L} {st : List Value} {w : ab_W} (h : ab_isR (ls 0) = true) : ab_Run ab_mt 84 0 ls st w = ab_Run ab_mt 84 1 ls (ab_gv (ls 0) :: st) w := E_loadr (n := 1) rfl h
theorem e_84_1 {ls : ab_L} {st : List Value} {w : ab_W} {a : Nat} (h : ab_isF 4 1 (w.2 a) = true) : ab_Run ab_mt 84 1 ls (.ref a :: st) w = ab_Run ab_mt 84 4 ls (ab_fv 1 (w.2 a) :: st) w := E_get rfl h
theorem e_84_4 {ls : ab_L} {st : List Value} {w : ab_W} {x : Int32} : ab_Run ab_mt 84 4 ls (.int x :: st) w = ab_Run ab_mt 84 5 ls (.long x.toInt64 :: st) w := E_i2l rfl
theorem e_84_5 {ls : ab_L} {st : List Value} {w : ab_W} (h : ab_isR (ls 1) = true) : ab_Run ab_mt 84 5 ls st w = ab_Run ab_mt 84 6 ls (ab_gv (ls 1) :: st) w := E_loadr (n := 1) rfl h
theorem e_84_6 {ls : ab_L} {st : List Value} {w : ab_W} (h : ab_isR (ls 0) = true) : ab_Run ab_mt 84 6 ls st w = ab_Run ab_mt 84 7 ls (ab_gv (ls 0) :: st) w := E_loadr (n := 1) rfl h
theorem e_84_7 {ls : ab_L} {st : List Value} {w : ab_W} {a : Nat} (h : ab_isF 4 0 (w.2 a) = true) : ab_Run ab_mt 84 7 ls (.ref a :: st) w = ab_Run ab_mt 84 10 ls (ab_fv 0 (w.2 a) :: st) w := E_get rfl h
theorem e_84_10 {ls : ab_L} {st : List Value} {w : ab_W} {v0 v1 : Value} (h1 : ab_recv ab_mt 60 [v0, v1] w.2 = true) (h8 : ab_w8 st = true) : ab_Run ab_mt 84 10 ls (v1 :: v0 :: st) w = ab_aft 60 84 10 ls st (ab_Cl 60 [v0, v1] w) := E_call2 rfl h1 h8
theorem e_84_13 {ls : ab_L} {st : List Value} {w : ab_W} {x y : Int64} : ab_Run ab_mt 84 13 ls (.long y :: .long x :: st) w = ab_Run ab_mt 84 14 ls (.long (x * y) :: st) w := E_lb (f := fun x y => x * y) rfl
theorem e_84_14 {ls : ab_L} {st : List Value} {w : ab_W} (h : ab_isL (ls 2) = true) (h2 : (ls 3).isNone = true) : ab_Run ab_mt 84 14 ls st w = ab_Run ab_mt 84 15 ls (ab_gv (ls 2) :: st) w := E_loadl (n := 1) rfl h h2
theorem e_84_15 {ls : ab_L} {st : List Value} {w : ab_W} {x y : Int64} : ab_Run ab_mt 84 15 ls (.long y :: .long x :: st) w = ab_Run ab_mt 84 16 ls (.long (x + y) :: st) w := E_lb (f := fun x y => x + y) rfl
theorem e_84_16 {ls : ab_L} {st : List Value} {w : ab_W} (h : ab_isR (ls 1) = true) : ab_Run ab_mt 84 16 ls st w = ab_Run ab_mt 84 17 ls (ab_gv (ls 1) :: st) w := E_loadr (n := 1) rfl h
theorem e_84_17 {ls : ab_L} {st : List Value} {w : ab_W} (h : ab_isR (ls 0) = true) : ab_Run ab_mt 84 17 ls st w = ab_Run ab_mt 84 18 ls (ab_gv (ls 0) :: st) w := E_loadr (n := 1) rfl h
theorem e_84_18 {ls : ab_L} {st : List Value} {w : ab_W} {a : Nat} (h : ab_isF 4 0 (w.2 a) = true) : ab_Run ab_mt 84 18 ls (.ref a :: st) w = ab_Run ab_mt 84 21 ls (ab_fv 0 (w.2 a) :: st) w := E_get rfl h
theorem e_84_21 {ls : ab_L} {st : List Value} {w : ab_W} {v0 v1 : Value} (h1 : ab_recv ab_mt 59 [v0, v1] w.2 = true) (h8 : ab_w8 st = true) : ab_Run ab_mt 84 21 ls (v1 :: v0 :: st) w = ab_aft 59 84 21 ls st (ab_Cl 59 [v0, v1] w) := E_call2 rfl h1 h8
theorem e_84_24 {ls : ab_L} {st : List Value} {w : ab_W} {x y : Int64} : ab_Run ab_mt 84 24 ls (.long y :: .long x :: st) w = ab_Run ab_mt 84 25 ls (.long (x - y) :: st) w := E_lb (f := fun x y => x - y) rfl
theorem e_84_25 {ls : ab_L} {st : List Value} {w : ab_W} (h : ab_isR (ls 0) = true) : ab_Run ab_mt 84 25 ls st w = ab_Run ab_mt 84 26 ls (ab_gv (ls 0) :: st) w := E_loadr (n := 1) rfl h
theorem e_84_26 {ls : ab_L} {st : List Value} {w : ab_W} {a : Nat} (h : ab_isF 4 2 (w.2 a) = true) : ab_Run ab_mt 84 26 ls (.ref a :: st) w = ab_Run ab_mt 84 29 ls (ab_fv 2 (w.2 a) :: st) w := E_get rfl h
theorem e_84_29 {ls : ab_L} {st : List Value} {w : ab_W} {v0 v1 : Value} (h1 : ab_recv ab_mt 44 [v0, v1] w.2 = true) (h8 : ab_w8 st = true) : ab_Run ab_mt 84 29 ls (v1 :: v0 :: st) w = ab_aft 44 84 29 ls st (ab_Cl 44 [v0, v1] w) := E_call2 rfl h1 h8
theorem e_84_32 {ls : ab_L} {w : ab_W} {x : Int64} : ab_Run ab_mt 84 32 ls [.long x] w = some (.inl (some (.long x)), w) := E_retl rfl
theorem rv_84 {σ : ab_S} {t : Nat} {x0 : Nat} {x1 : Int64} : ab_recv ab_mt 84 [.ref t, .ref x0, .long x1] σ = ab_isO 4 (σ t) := rfl
theorem e_85_0 {ls : ab_L} {st : List Value} {w : ab_W} (h : ab_isR (ls 0) = true) : ab_Run ab_mt 85 0 ls st w = ab_Run ab_mt 85 1 ls (ab_gv (ls 0) :: st) w := E_loadr (n := 1) rfl h
theorem e_85_1 {ls : ab_L} {st : List Value} {w : ab_W} {a : Nat} (h : ab_isF 4 3 (w.2 a) = true) : ab_Run ab_mt 85 1 ls (.ref a :: st) w = ab_Run ab_mt 85 4 ls (ab_fv 3 (w.2 a) :: st) w := E_get rfl h
theorem e_85_4 {ls : ab_L} {st : List Value} {w : ab_W} (h : ab_isR (ls 0) = true) : ab_Run ab_mt 85 4 ls st w = ab_Run ab_mt 85 5 ls (ab_gv (ls 0) :: st) w := E_loadr (n := 1) rfl h
theorem e_85_5 {ls : ab_L} {st : List Value} {w : ab_W} {a : Nat} (h : ab_isF 4 1 (w.2 a) = true) : ab_Run ab_mt 85 5 ls (.ref a :: st) w = ab_Run ab_mt 85 8 ls (ab_fv 1 (w.2 a) :: st) w := E_get rfl h
theorem e_85_8 {ls : ab_L} {st : List Value} {w : ab_W} {x y : Int32} : ab_Run ab_mt 85 8 ls (.int y :: .int x :: st) w = if y ≤ x then ab_Run ab_mt 85 33 ls st w else ab_Run ab_mt 85 11 ls st w := E_ic_ge rfl
theorem e_85_11 {ls : ab_L} {st : List Value} {w : ab_W} (h : ab_isR (ls 0) = true) : ab_Run ab_mt 85 11 ls st w = ab_Run ab_mt 85 12 ls (ab_gv (ls 0) :: st) w := E_loadr (n := 1) rfl h
theorem e_85_12 {ls : ab_L} {st : List Value} {w : ab_W} {a : Nat} (h : ab_isF 4 3 (w.2 a) = true) : ab_Run ab_mt 85 12 ls (.ref a :: st) w = ab_Run ab_mt 85 15 ls (ab_fv 3 (w.2 a) :: st) w := E_get rfl h
theorem e_85_15 {ls : ab_L} {st : List Value} {w : ab_W} {x : Int32} : ab_Run ab_mt 85 15 ls (.int x :: st) w = ab_Run ab_mt 85 16 ls (.long x.toInt64 :: st) w := E_i2l rfl
theorem e_85_16 {ls : ab_L} {st : List Value} {w : ab_W} (h : ab_isR (ls 1) = true) : ab_Run ab_mt 85 16 ls st w = ab_Run ab_mt 85 17 ls (ab_gv (ls 1) :: st) w := E_loadr (n := 1) rfl h
theorem e_85_17 {ls : ab_L} {st : List Value} {w : ab_W} (h : ab_isR (ls 0) = true) : ab_Run ab_mt 85 17 ls st w = ab_Run ab_mt 85 18 ls (ab_gv (ls 0) :: st) w := E_loadr (n := 1) rfl h
theorem e_85_18 {ls : ab_L} {st : List Value} {w : ab_W} {a : Nat} (h : ab_isF 4 0 (w.2 a) = true) : ab_Run ab_mt 85 18 ls (.ref a :: st) w = ab_Run ab_mt 85 21 ls (ab_fv 0 (w.2 a) :: st) w := E_get rfl h
theorem e_85_21 {ls : ab_L} {st : List Value} {w : ab_W} {v0 v1 : Value} (h1 : ab_recv ab_mt 60 [v0, v1] w.2 = true) (h8 : ab_w8 st = true) : ab_Run ab_mt 85 21 ls (v1 :: v0 :: st) w = ab_aft 60 85 21 ls st (ab_Cl 60 [v0, v1] w) := E_call2 rfl h1 h8
theorem e_85_24 {ls : ab_L} {st : List Value} {w : ab_W} {x y : Int64} : ab_Run ab_mt 85 24 ls (.long y :: .long x :: st) w = ab_Run ab_mt 85 25 ls (.long (x * y) :: st) w := E_lb (f := fun x y => x * y) rfl
theorem e_85_25 {ls : ab_L} {st : List Value} {w : ab_W} (h : ab_isR (ls 0) = true) : ab_Run ab_mt 85 25 ls st w = ab_Run ab_mt 85 26 ls (ab_gv (ls 0) :: st) w := E_loadr (n := 1) rfl h
theorem e_85_26 {ls : ab_L} {st : List Value} {w : ab_W} {a : Nat} (h : ab_isF 4 2 (w.2 a) = true) : ab_Run ab_mt 85 26 ls (.ref a :: st) w = ab_Run ab_mt 85 29 ls (ab_fv 2 (w.2 a) :: st) w := E_get rfl h
theorem e_85_29 {ls : ab_L} {st : List Value} {w : ab_W} {v0 v1 : Value} (h1 : ab_recv ab_mt 44 [v0, v1] w.2 = true) (h8 : ab_w8 st = true) : ab_Run ab_mt 85 29 ls (v1 :: v0 :: st) w = ab_aft 44 85 29 ls st (ab_Cl 44 [v0, v1] w) := E_call2 rfl h1 h8
theorem e_85_32 {ls : ab_L} {w : ab_W} {x : Int64} : ab_Run ab_mt 85 32 ls [.long x] w = some (.inl (some (.long x)), w) := E_retl rfl
theorem e_85_33 {ls : ab_L} {st : List Value} {w : ab_W} (h : ab_isR (ls 0) = true) : ab_Run ab_mt 85 33 ls st w = ab_Run ab_mt 85 34 ls (ab_gv (ls 0) :: st) w := E_loadr (n := 1) rfl h
theorem e_85_34 {ls : ab_L} {st : List Value} {w : ab_W} {a : Nat} (h : ab_isF 4 4 (w.2 a) = true) : ab_Run ab_mt 85 34 ls (.ref a :: st) w = ab_Run ab_mt 85 37 ls (ab_fv 4 (w.2 a) :: st) w := E_get rfl h
theorem e_85_37 {ls : ab_L} {st : List Value} {w : ab_W} (h : ab_isR (ls 1) = true) : ab_Run ab_mt 85 37 ls st w = ab_Run ab_mt 85 38 ls (ab_gv (ls 1) :: st) w := E_loadr (n := 1) rfl h
theorem e_85_38 {ls : ab_L} {st : List Value} {w : ab_W} {a : Nat} (h : ab_isF 1 6 (w.2 a) = true) : ab_Run ab_mt 85 38 ls (.ref a :: st) w = ab_Run ab_mt 85 41 ls (ab_fv 6 (w.2 a) :: st) w := E_get rfl h
theorem e_85_41 {ls : ab_L} {st : List Value} {w : ab_W} {x y : Int32} : ab_Run ab_mt 85 41 ls (.int y :: .int x :: st) w = if y ≤ x then ab_Run ab_mt 85 64 ls st w else ab_Run ab_mt 85 44 ls st w := E_ic_ge rfl
theorem e_85_44 {ls : ab_L} {st : List Value} {w : ab_W} (h : ab_isR (ls 0) = true) : ab_Run ab_mt 85 44 ls st w = ab_Run ab_mt 85 45 ls (ab_gv (ls 0) :: st) w := E_loadr (n := 1) rfl h
theorem e_85_45 {ls : ab_L} {st : List Value} {w : ab_W} (h : ab_isR (ls 1) = true) : ab_Run ab_mt 85 45 ls st w = ab_Run ab_mt 85 46 ls (ab_gv (ls 1) :: st) w := E_loadr (n := 1) rfl h
theorem e_85_46 {ls : ab_L} {st : List Value} {w : ab_W} (h : ab_isR (ls 1) = true) : ab_Run ab_mt 85 46 ls st w = ab_Run ab_mt 85 47 ls (ab_gv (ls 1) :: st) w := E_loadr (n := 1) rfl h
theorem e_85_47 {ls : ab_L} {st : List Value} {w : ab_W} (h : ab_isR (ls 0) = true) : ab_Run ab_mt 85 47 ls st w = ab_Run ab_mt 85 48 ls (ab_gv (ls 0) :: st) w := E_loadr (n := 1) rfl h
theorem e_85_48 {ls : ab_L} {st : List Value} {w : ab_W} {a : Nat} (h : ab_isF 4 4 (w.2 a) = true) : ab_Run ab_mt 85 48 ls (.ref a :: st) w = ab_Run ab_mt 85 51 ls (ab_fv 4 (w.2 a) :: st) w := E_get rfl h
theorem e_85_51 {ls : ab_L} {st : List Value} {w : ab_W} (h : ab_isR (ls 0) = true) : ab_Run ab_mt 85 51 ls st w = ab_Run ab_mt 85 52 ls (ab_gv (ls 0) :: st) w := E_loadr (n := 1) rfl h
theorem e_85_52 {ls : ab_L} {st : List Value} {w : ab_W} {a : Nat} (h : ab_isF 4 5 (w.2 a) = true) : ab_Run ab_mt 85 52 ls (.ref a :: st) w = ab_Run ab_mt 85 55 ls (ab_fv 5 (w.2 a) :: st) w := E_get rfl h
theorem e_85_55 {ls : ab_L} {st : List Value} {w : ab_W} {v0 v1 v2 : Value} (h1 : ab_recv ab_mt 63 [v0, v1, v2] w.2 = true) (h8 : ab_w8 st = true) : ab_Run ab_mt 85 55 ls (v2 :: v1 :: v0 :: st) w = ab_aft 63 85 55 ls st (ab_Cl 63 [v0, v1, v2] w) := E_call3 rfl h1 h8
theorem e_85_58 {ls : ab_L} {st : List Value} {w : ab_W} {v0 v1 v2 : Value} (h1 : ab_recv ab_mt 84 [v0, v1, v2] w.2 = true) (h8 : ab_w8 st = true) : ab_Run ab_mt 85 58 ls (v2 :: v1 :: v0 :: st) w = ab_aft 84 85 58 ls st (ab_Cl 84 [v0, v1, v2] w) := E_call3 rfl h1 h8
theorem e_85_61 {ls : ab_L} {st : List Value} {w : ab_W} : ab_Run ab_mt 85 61 ls st w = ab_Run ab_mt 85 67 ls st w := E_goto rfl
theorem e_85_64 {ls : ab_L} {st : List Value} {w : ab_W} : ab_Run ab_mt 85 64 ls st w = ab_Run ab_mt 85 67 ls (.long (-1) :: st) w := E_push (n := 3) rfl
theorem e_85_67 {ls : ab_L} {w : ab_W} {x : Int64} : ab_Run ab_mt 85 67 ls [.long x] w = some (.inl (some (.long x)), w) := E_retl rfl
theorem rv_85 {σ : ab_S} {t : Nat} {x0 : Nat} : ab_recv ab_mt 85 [.ref t, .ref x0] σ = ab_isO 4 (σ t) := rfl
theorem e_86_0 {ls : ab_L} {st : List Value} {w : ab_W} (h : ab_isR (ls 1) = true) : ab_Run ab_mt 86 0 ls st w = ab_Run ab_mt 86 1 ls (ab_gv (ls 1) :: st) w := E_loadr (n := 1) rfl h
theorem e_86_1 {ls : ab_L} {st : List Value} {w : ab_W} {a : Nat} (h : ab_isF 1 0 (w.2 a) = true) : ab_Run ab_mt 86 1 ls (.ref a :: st) w = ab_Run ab_mt 86 4 ls (ab_fv 0 (w.2 a) :: st) w := E_get rfl h
theorem e_86_4 {ls : ab_L} {st : List Value} {w : ab_W} {a : Nat} (h : ab_isF 2 2 (w.2 a) = true) : ab_Run ab_mt 86 4 ls (.ref a :: st) w = ab_Run ab_mt 86 7 ls (ab_fv 2 (w.2 a) :: st) w := E_get rfl h
theorem e_86_7 {ls : ab_L} {st : List Value} {w : ab_W} (h : ab_isI (ls 2) = true) : ab_Run ab_mt 86 7 ls st w = ab_Run ab_mt 86 8 ls (ab_gv (ls 2) :: st) w := E_loadi (n := 1) rfl h
theorem e_86_8 {ls : ab_L} {st : List Value} {w : ab_W} : ab_Run ab_mt 86 8 ls st w = ab_Run ab_mt 86 9 ls (.int (nI 0) :: st) w := E_push (n := 1) rfl
theorem e_86_9 {ls : ab_L} {st : List Value} {w : ab_W} {v0 v1 v2 : Value} (h1 : ab_recv ab_mt 75 [v0, v1, v2] w.2 = true) (h8 : ab_w8 st = true) : ab_Run ab_mt 86 9 ls (v2 :: v1 :: v0 :: st) w = ab_aft 75 86 9 ls st (ab_Cl 75 [v0, v1, v2] w) := E_call3 rfl h1 h8
theorem e_86_12 {ls : ab_L} {st : List Value} {w : ab_W} (h : ab_isR (ls 0) = true) : ab_Run ab_mt 86 12 ls st w = ab_Run ab_mt 86 13 ls (ab_gv (ls 0) :: st) w := E_loadr (n := 1) rfl h
theorem e_86_13 {ls : ab_L} {st : List Value} {w : ab_W} {a : Nat} (h : ab_isF 4 0 (w.2 a) = true) : ab_Run ab_mt 86 13 ls (.ref a :: st) w = ab_Run ab_mt 86 16 ls (ab_fv 0 (w.2 a) :: st) w := E_get rfl h
theorem e_86_16 {ls : ab_L} {st : List Value} {w : ab_W} {x y : Int32} : ab_Run ab_mt 86 16 ls (.int y :: .int x :: st) w = if x < y then ab_Run ab_mt 86 23 ls st w else ab_Run ab_mt 86 19 ls st w := E_ic_lt rfl
theorem e_86_19 {ls : ab_L} {st : List Value} {w : ab_W} : ab_Run ab_mt 86 19 ls st w = ab_Run ab_mt 86 20 ls (.int (nI 1) :: st) w := E_push (n := 1) rfl
theorem e_86_20 {ls : ab_L} {st : List Value} {w : ab_W} : ab_Run ab_mt 86 20 ls st w = ab_Run ab_mt 86 24 ls st w := E_goto rfl
theorem e_86_23 {ls : ab_L} {st : List Value} {w : ab_W} : ab_Run ab_mt 86 23 ls st w = ab_Run ab_mt 86 24 ls (.int (nI 0) :: st) w := E_push (n := 1) rfl
theorem e_86_24 {ls : ab_L} {w : ab_W} {x : Int32} (h : ab_fitr 2 (.int x) = true) : ab_Run ab_mt 86 24 ls [.int x] w = some (.inl (some (.int x)), w) := E_retz rfl h
theorem rv_86 {σ : ab_S} {t : Nat} {x0 : Nat} {x1 : Int32} : ab_recv ab_mt 86 [.ref t, .ref x0, .int x1] σ = ab_isO 4 (σ t) := rfl
theorem e_87_0 {ls : ab_L} {st : List Value} {w : ab_W} (h : ab_isR (ls 1) = true) : ab_Run ab_mt 87 0 ls st w = ab_Run ab_mt 87 1 ls (ab_gv (ls 1) :: st) w := E_loadr (n := 1) rfl h
theorem e_87_1 {ls : ab_L} {st : List Value} {w : ab_W} {a : Nat} (h : ab_isF 1 0 (w.2 a) = true) : ab_Run ab_mt 87 1 ls (.ref a :: st) w = ab_Run ab_mt 87 4 ls (ab_fv 0 (w.2 a) :: st) w := E_get rfl h
theorem e_87_4 {ls : ab_L} {st : List Value} {w : ab_W} {a : Nat} (h : ab_isF 2 2 (w.2 a) = true) : ab_Run ab_mt 87 4 ls (.ref a :: st) w = ab_Run ab_mt 87 7 ls (ab_fv 2 (w.2 a) :: st) w := E_get rfl h
theorem e_87_7 {ls : ab_L} {st : List Value} {w : ab_W} (h : ab_isI (ls 2) = true) : ab_Run ab_mt 87 7 ls st w = ab_Run ab_mt 87 8 ls (ab_gv (ls 2) :: st) w := E_loadi (n := 1) rfl h
theorem e_87_8 {ls : ab_L} {st : List Value} {w : ab_W} : ab_Run ab_mt 87 8 ls st w = ab_Run ab_mt 87 9 ls (.int (nI 2) :: st) w := E_push (n := 1) rfl
theorem e_87_9 {ls : ab_L} {st : List Value} {w : ab_W} {v0 v1 v2 : Value} (h1 : ab_recv ab_mt 75 [v0, v1, v2] w.2 = true) (h8 : ab_w8 st = true) : ab_Run ab_mt 87 9 ls (v2 :: v1 :: v0 :: st) w = ab_aft 75 87 9 ls st (ab_Cl 75 [v0, v1, v2] w) := E_call3 rfl h1 h8
theorem e_87_12 {ls : ab_L} {st : List Value} {w : ab_W} {x : Int32} : ab_Run ab_mt 87 12 ls (.int x :: st) w = ab_Run ab_mt 87 13 ls (.long x.toInt64 :: st) w := E_i2l rfl
theorem e_87_13 {ls : ab_L} {st : List Value} {w : ab_W} : ab_Run ab_mt 87 13 ls st w = ab_Run ab_mt 87 16 ls (.long (lN 1000) :: st) w := E_push (n := 3) rfl
theorem e_87_16 {ls : ab_L} {st : List Value} {w : ab_W} {x y : Int64} : ab_Run ab_mt 87 16 ls (.long y :: .long x :: st) w = ab_Run ab_mt 87 17 ls (.long (x * y) :: st) w := E_lb (f := fun x y => x * y) rfl
theorem e_87_17 {ls : ab_L} {st : List Value} {w : ab_W} {x : Int64} : ab_Run ab_mt 87 17 ls (.long x :: st) w = ab_Run ab_mt 87 18 (ab_l2 ls 3 (.long x)) st w := E_storl (n := 1) rfl
theorem e_87_18 {ls : ab_L} {st : List Value} {w : ab_W} (h : ab_isR (ls 0) = true) : ab_Run ab_mt 87 18 ls st w = ab_Run ab_mt 87 19 ls (ab_gv (ls 0) :: st) w := E_loadr (n := 1) rfl h
theorem e_87_19 {ls : ab_L} {st : List Value} {w : ab_W} (h : ab_isR (ls 1) = true) : ab_Run ab_mt 87 19 ls st w = ab_Run ab_mt 87 20 ls (ab_gv (ls 1) :: st) w := E_loadr (n := 1) rfl h
theorem e_87_20 {ls : ab_L} {st : List Value} {w : ab_W} (h : ab_isR (ls 1) = true) : ab_Run ab_mt 87 20 ls st w = ab_Run ab_mt 87 21 ls (ab_gv (ls 1) :: st) w := E_loadr (n := 1) rfl h
theorem e_87_21 {ls : ab_L} {st : List Value} {w : ab_W} (h : ab_isI (ls 2) = true) : ab_Run ab_mt 87 21 ls st w = ab_Run ab_mt 87 22 ls (ab_gv (ls 2) :: st) w := E_loadi (n := 1) rfl h
theorem e_87_22 {ls : ab_L} {st : List Value} {w : ab_W} {v0 v1 : Value} (h1 : ab_recv ab_mt 65 [v0, v1] w.2 = true) (h8 : ab_w8 st = true) : ab_Run ab_mt 87 22 ls (v1 :: v0 :: st) w = ab_aft 65 87 22 ls st (ab_Cl 65 [v0, v1] w) := E_call2 rfl h1 h8
theorem e_87_25 {ls : ab_L} {st : List Value} {w : ab_W} {v0 v1 v2 : Value} (h1 : ab_recv ab_mt 84 [v0, v1, v2] w.2 = true) (h8 : ab_w8 st = true) : ab_Run ab_mt 87 25 ls (v2 :: v1 :: v0 :: st) w = ab_aft 84 87 25 ls st (ab_Cl 84 [v0, v1, v2] w) := E_call3 rfl h1 h8
theorem e_87_28 {ls : ab_L} {st : List Value} {w : ab_W} (h : ab_isL (ls 3) = true) (h2 : (ls 4).isNone = true) : ab_Run ab_mt 87 28 ls st w = ab_Run ab_mt 87 29 ls (ab_gv (ls 3) :: st) w := E_loadl (n := 1) rfl h h2
theorem e_87_29 {ls : ab_L} {st : List Value} {w : ab_W} {x y : Int64} : ab_Run ab_mt 87 29 ls (.long y :: .long x :: st) w = ab_Run ab_mt 87 30 ls (.long (x - y) :: st) w := E_lb (f := fun x y => x - y) rfl
theorem e_87_30 {ls : ab_L} {st : List Value} {w : ab_W} : ab_Run ab_mt 87 30 ls st w = ab_Run ab_mt 87 31 ls (.long (lN 0) :: st) w := E_push (n := 1) rfl
theorem e_87_31 {ls : ab_L} {st : List Value} {w : ab_W} {x y : Int64} (h8 : ab_w8 st = true) : ab_Run ab_mt 87 31 ls (.long y :: .long x :: st) w = ab_Run ab_mt 87 34 ls (.long (if y < x then x else y) :: st) w := E_maxl rfl h8
theorem e_87_34 {ls : ab_L} {w : ab_W} {x : Int64} : ab_Run ab_mt 87 34 ls [.long x] w = some (.inl (some (.long x)), w) := E_retl rfl
theorem rv_87 {σ : ab_S} {t : Nat} {x0 : Nat} {x1 : Int32} : ab_recv ab_mt 87 [.ref t, .ref x0, .int x1] σ = ab_isO 4 (σ t) := rfl
theorem e_88_0 {ls : ab_L} {st : List Value} {w : ab_W} : ab_Run ab_mt 88 0 ls st w = ab_Run ab_mt 88 3 ls (.long (-1) :: st) w := E_push (n := 3) rfl
theorem e_88_3 {ls : ab_L} {st : List Value} {w : ab_W} {x : Int64} : ab_Run ab_mt 88 3 ls (.long x :: st) w = ab_Run ab_mt 88 4 (ab_l2 ls 2 (.long x)) st w := E_storl (n := 1) rfl
theorem e_88_4 {ls : ab_L} {st : List Value} {w : ab_W} : ab_Run ab_mt 88 4 ls st w = ab_Run ab_mt 88 5 ls (.int (nI 0) :: st) w := E_push (n := 1) rfl
theorem e_88_5 {ls : ab_L} {st : List Value} {w : ab_W} {x : Int32} : ab_Run ab_mt 88 5 ls (.int x :: st) w = ab_Run ab_mt 88 7 (ab_l1 ls 4 (.int x)) st w := E_stori (n := 2) rfl
theorem e_88_7 {ls : ab_L} {st : List Value} {w : ab_W} (h : ab_isI (ls 4) = true) : ab_Run ab_mt 88 7 ls st w = ab_Run ab_mt 88 9 ls (ab_gv (ls 4) :: st) w := E_loadi (n := 2) rfl h
theorem e_88_9 {ls : ab_L} {st : List Value} {w : ab_W} (h : ab_isR (ls 1) = true) : ab_Run ab_mt 88 9 ls st w = ab_Run ab_mt 88 10 ls (ab_gv (ls 1) :: st) w := E_loadr (n := 1) rfl h
theorem e_88_10 {ls : ab_L} {st : List Value} {w : ab_W} {a : Nat} (h : ab_isF 1 0 (w.2 a) = true) : ab_Run ab_mt 88 10 ls (.ref a :: st) w = ab_Run ab_mt 88 13 ls (ab_fv 0 (w.2 a) :: st) w := E_get rfl h
theorem e_88_13 {ls : ab_L} {st : List Value} {w : ab_W} {a : Nat} (h : ab_isF 2 2 (w.2 a) = true) : ab_Run ab_mt 88 13 ls (.ref a :: st) w = ab_Run ab_mt 88 16 ls (ab_fv 2 (w.2 a) :: st) w := E_get rfl h
theorem e_88_16 {ls : ab_L} {st : List Value} {w : ab_W} {a : Nat} (h : ab_isF 3 3 (w.2 a) = true) : ab_Run ab_mt 88 16 ls (.ref a :: st) w = ab_Run ab_mt 88 19 ls (ab_fv 3 (w.2 a) :: st) w := E_get rfl h
theorem e_88_19 {ls : ab_L} {st : List Value} {w : ab_W} {x y : Int32} : ab_Run ab_mt 88 19 ls (.int y :: .int x :: st) w = if y ≤ x then ab_Run ab_mt 88 75 ls st w else ab_Run ab_mt 88 22 ls st w := E_ic_ge rfl
theorem e_88_22 {ls : ab_L} {st : List Value} {w : ab_W} (h : ab_isR (ls 0) = true) : ab_Run ab_mt 88 22 ls st w = ab_Run ab_mt 88 23 ls (ab_gv (ls 0) :: st) w := E_loadr (n := 1) rfl h
theorem e_88_23 {ls : ab_L} {st : List Value} {w : ab_W} (h : ab_isR (ls 1) = true) : ab_Run ab_mt 88 23 ls st w = ab_Run ab_mt 88 24 ls (ab_gv (ls 1) :: st) w := E_loadr (n := 1) rfl h
theorem e_88_24 {ls : ab_L} {st : List Value} {w : ab_W} (h : ab_isI (ls 4) = true) : ab_Run ab_mt 88 24 ls st w = ab_Run ab_mt 88 26 ls (ab_gv (ls 4) :: st) w := E_loadi (n := 2) rfl h
theorem e_88_26 {ls : ab_L} {st : List Value} {w : ab_W} {v0 v1 v2 : Value} (h1 : ab_recv ab_mt 87 [v0, v1, v2] w.2 = true) (h8 : ab_w8 st = true) : ab_Run ab_mt 88 26 ls (v2 :: v1 :: v0 :: st) w = ab_aft 87 88 26 ls st (ab_Cl 87 [v0, v1, v2] w) := E_call3 rfl h1 h8
theorem e_88_29 {ls : ab_L} {st : List Value} {w : ab_W} {x : Int64} : ab_Run ab_mt 88 29 ls (.long x :: st) w = ab_Run ab_mt 88 31 (ab_l2 ls 5 (.long x)) st w := E_storl (n := 2) rfl
theorem e_88_31 {ls : ab_L} {st : List Value} {w : ab_W} (h : ab_isR (ls 0) = true) : ab_Run ab_mt 88 31 ls st w = ab_Run ab_mt 88 32 ls (ab_gv (ls 0) :: st) w := E_loadr (n := 1) rfl h
theorem e_88_32 {ls : ab_L} {st : List Value} {w : ab_W} (h : ab_isR (ls 1) = true) : ab_Run ab_mt 88 32 ls st w = ab_Run ab_mt 88 33 ls (ab_gv (ls 1) :: st) w := E_loadr (n := 1) rfl h
theorem e_88_33 {ls : ab_L} {st : List Value} {w : ab_W} (h : ab_isI (ls 4) = true) : ab_Run ab_mt 88 33 ls st w = ab_Run ab_mt 88 35 ls (ab_gv (ls 4) :: st) w := E_loadi (n := 2) rfl h
theorem e_88_35 {ls : ab_L} {st : List Value} {w : ab_W} {v0 v1 v2 : Value} (h1 : ab_recv ab_mt 86 [v0, v1, v2] w.2 = true) (h8 : ab_w8 st = true) : ab_Run ab_mt 88 35 ls (v2 :: v1 :: v0 :: st) w = ab_aft 86 88 35 ls st (ab_Cl 86 [v0, v1, v2] w) := E_call3 rfl h1 h8
theorem e_88_38 {ls : ab_L} {st : List Value} {w : ab_W} {x : Int32} : ab_Run ab_mt 88 38 ls (.int x :: st) w = if x = 0 then ab_Run ab_mt 88 69 ls st w else ab_Run ab_mt 88 41 ls st w := E_if_eq rfl
theorem e_88_41 {ls : ab_L} {st : List Value} {w : ab_W} (h : ab_isL (ls 5) = true) (h2 : (ls 6).isNone = true) : ab_Run ab_mt 88 41 ls st w = ab_Run ab_mt 88 43 ls (ab_gv (ls 5) :: st) w := E_loadl (n := 2) rfl h h2
theorem e_88_43 {ls : ab_L} {st : List Value} {w : ab_W} (h : ab_isR (ls 0) = true) : ab_Run ab_mt 88 43 ls st w = ab_Run ab_mt 88 44 ls (ab_gv (ls 0) :: st) w := E_loadr (n := 1) rfl h
theorem e_88_44 {ls : ab_L} {st : List Value} {w : ab_W} {a : Nat} (h : ab_isF 4 7 (w.2 a) = true) : ab_Run ab_mt 88 44 ls (.ref a :: st) w = ab_Run ab_mt 88 47 ls (ab_fv 7 (w.2 a) :: st) w := E_get rfl h
theorem e_88_47 {ls : ab_L} {st : List Value} {w : ab_W} {x y : Int64} : ab_Run ab_mt 88 47 ls (.long y :: .long x :: st) w = ab_Run ab_mt 88 48 ls (.int (lg_cmp x y) :: st) w := E_lcmp rfl
theorem e_88_48 {ls : ab_L} {st : List Value} {w : ab_W} {x : Int32} : ab_Run ab_mt 88 48 ls (.int x :: st) w = if x < 0 then ab_Run ab_mt 88 69 ls st w else ab_Run ab_mt 88 51 ls st w := E_if_lt rfl
theorem e_88_51 {ls : ab_L} {st : List Value} {w : ab_W} (h : ab_isL (ls 2) = true) (h2 : (ls 3).isNone = true) : ab_Run ab_mt 88 51 ls st w = ab_Run ab_mt 88 52 ls (ab_gv (ls 2) :: st) w := E_loadl (n := 1) rfl h h2
theorem e_88_52 {ls : ab_L} {st : List Value} {w : ab_W} : ab_Run ab_mt 88 52 ls st w = ab_Run ab_mt 88 55 ls (.long (-1) :: st) w := E_push (n := 3) rfl
theorem e_88_55 {ls : ab_L} {st : List Value} {w : ab_W} {x y : Int64} : ab_Run ab_mt 88 55 ls (.long y :: .long x :: st) w = ab_Run ab_mt 88 56 ls (.int (lg_cmp x y) :: st) w := E_lcmp rfl
theorem e_88_56 {ls : ab_L} {st : List Value} {w : ab_W} {x : Int32} : ab_Run ab_mt 88 56 ls (.int x :: st) w = if x = 0 then ab_Run ab_mt 88 66 ls st w else ab_Run ab_mt 88 59 ls st w := E_if_eq rfl
theorem e_88_59 {ls : ab_L} {st : List Value} {w : ab_W} (h : ab_isL (ls 5) = true) (h2 : (ls 6).isNone = true) : ab_Run ab_mt 88 59 ls st w = ab_Run ab_mt 88 61 ls (ab_gv (ls 5) :: st) w := E_loadl (n := 2) rfl h h2
theorem e_88_61 {ls : ab_L} {st : List Value} {w : ab_W} (h : ab_isL (ls 2) = true) (h2 : (ls 3).isNone = true) : ab_Run ab_mt 88 61 ls st w = ab_Run ab_mt 88 62 ls (ab_gv (ls 2) :: st) w := E_loadl (n := 1) rfl h h2
theorem e_88_62 {ls : ab_L} {st : List Value} {w : ab_W} {x y : Int64} : ab_Run ab_mt 88 62 ls (.long y :: .long x :: st) w = ab_Run ab_mt 88 63 ls (.int (lg_cmp x y) :: st) w := E_lcmp rfl
theorem e_88_63 {ls : ab_L} {st : List Value} {w : ab_W} {x : Int32} : ab_Run ab_mt 88 63 ls (.int x :: st) w = if 0 ≤ x then ab_Run ab_mt 88 69 ls st w else ab_Run ab_mt 88 66 ls st w := E_if_ge rfl
theorem e_88_66 {ls : ab_L} {st : List Value} {w : ab_W} (h : ab_isL (ls 5) = true) (h2 : (ls 6).isNone = true) : ab_Run ab_mt 88 66 ls st w = ab_Run ab_mt 88 68 ls (ab_gv (ls 5) :: st) w := E_loadl (n := 2) rfl h h2
theorem e_88_68 {ls : ab_L} {st : List Value} {w : ab_W} {x : Int64} : ab_Run ab_mt 88 68 ls (.long x :: st) w = ab_Run ab_mt 88 69 (ab_l2 ls 2 (.long x)) st w := E_storl (n := 1) rfl
theorem e_88_69 {ls : ab_L} {st : List Value} {w : ab_W} (h : ab_isI (ls 4) = true) : ab_Run ab_mt 88 69 ls st w = ab_Run ab_mt 88 72 (ab_l1 ls 4 (.int (ab_gi (ls 4) + (nI 1)))) st w := E_iinc rfl h
theorem e_88_72 {ls : ab_L} {st : List Value} {w : ab_W} : ab_Run ab_mt 88 72 ls st w = ab_Run ab_mt 88 7 ls st w := E_goto rfl
theorem e_88_75 {ls : ab_L} {st : List Value} {w : ab_W} (h : ab_isL (ls 2) = true) (h2 : (ls 3).isNone = true) : ab_Run ab_mt 88 75 ls st w = ab_Run ab_mt 88 76 ls (ab_gv (ls 2) :: st) w := E_loadl (n := 1) rfl h h2
theorem e_88_76 {ls : ab_L} {w : ab_W} {x : Int64} : ab_Run ab_mt 88 76 ls [.long x] w = some (.inl (some (.long x)), w) := E_retl rfl
theorem rv_88 {σ : ab_S} {t : Nat} {x0 : Nat} : ab_recv ab_mt 88 [.ref t, .ref x0] σ = ab_isO 4 (σ t) := rfl
theorem e_89_0 {ls : ab_L} {st : List Value} {w : ab_W} (h : ab_isR (ls 0) = true) : ab_Run ab_mt 89 0 ls st w = ab_Run ab_mt 89 1 ls (ab_gv (ls 0) :: st) w := E_loadr (n := 1) rfl h
theorem e_89_1 {ls : ab_L} {st : List Value} {w : ab_W} {a : Nat} (h : ab_isF 4 7 (w.2 a) = true) : ab_Run ab_mt 89 1 ls (.ref a :: st) w = ab_Run ab_mt 89 4 ls (ab_fv 7 (w.2 a) :: st) w := E_get rfl h
theorem e_89_4 {ls : ab_L} {st : List Value} {w : ab_W} (h : ab_isL (ls 2) = true) (h2 : (ls 3).isNone = true) : ab_Run ab_mt 89 4 ls st w = ab_Run ab_mt 89 5 ls (ab_gv (ls 2) :: st) w := E_loadl (n := 1) rfl h h2
theorem e_89_5 {ls : ab_L} {st : List Value} {w : ab_W} {x y : Int64} : ab_Run ab_mt 89 5 ls (.long y :: .long x :: st) w = ab_Run ab_mt 89 6 ls (.long (x + y) :: st) w := E_lb (f := fun x y => x + y) rfl
theorem e_89_6 {ls : ab_L} {st : List Value} {w : ab_W} {x : Int64} : ab_Run ab_mt 89 6 ls (.long x :: st) w = ab_Run ab_mt 89 8 (ab_l2 ls 4 (.long x)) st w := E_storl (n := 2) rfl
theorem e_89_8 {ls : ab_L} {st : List Value} {w : ab_W} (h : ab_isR (ls 0) = true) : ab_Run ab_mt 89 8 ls st w = ab_Run ab_mt 89 9 ls (ab_gv (ls 0) :: st) w := E_loadr (n := 1) rfl h
theorem e_89_9 {ls : ab_L} {st : List Value} {w : ab_W} (h : ab_isR (ls 1) = true) : ab_Run ab_mt 89 9 ls st w = ab_Run ab_mt 89 10 ls (ab_gv (ls 1) :: st) w := E_loadr (n := 1) rfl h
theorem e_89_10 {ls : ab_L} {st : List Value} {w : ab_W} (h : ab_isL (ls 4) = true) (h2 : (ls 5).isNone = true) : ab_Run ab_mt 89 10 ls st w = ab_Run ab_mt 89 12 ls (ab_gv (ls 4) :: st) w := E_loadl (n := 2) rfl h h2
theorem e_89_12 {ls : ab_L} {st : List Value} {w : ab_W} {v0 v1 v2 : Value} (h1 : ab_recv ab_mt 90 [v0, v1, v2] w.2 = true) (h8 : ab_w8 st = true) : ab_Run ab_mt 89 12 ls (v2 :: v1 :: v0 :: st) w = ab_aft 90 89 12 ls st (ab_Cl 90 [v0, v1, v2] w) := E_call3 rfl h1 h8
theorem e_89_15 {ls : ab_L} {st : List Value} {w : ab_W} (h : ab_isR (ls 0) = true) : ab_Run ab_mt 89 15 ls st w = ab_Run ab_mt 89 16 ls (ab_gv (ls 0) :: st) w := E_loadr (n := 1) rfl h
theorem e_89_16 {ls : ab_L} {st : List Value} {w : ab_W} (h : ab_isR (ls 1) = true) : ab_Run ab_mt 89 16 ls st w = ab_Run ab_mt 89 17 ls (ab_gv (ls 1) :: st) w := E_loadr (n := 1) rfl h
theorem e_89_17 {ls : ab_L} {st : List Value} {w : ab_W} (h : ab_isL (ls 4) = true) (h2 : (ls 5).isNone = true) : ab_Run ab_mt 89 17 ls st w = ab_Run ab_mt 89 19 ls (ab_gv (ls 4) :: st) w := E_loadl (n := 2) rfl h h2
theorem e_89_19 {ls : ab_L} {st : List Value} {w : ab_W} {v0 v1 v2 : Value} (h1 : ab_recv ab_mt 93 [v0, v1, v2] w.2 = true) (h8 : ab_w8 st = true) : ab_Run ab_mt 89 19 ls (v2 :: v1 :: v0 :: st) w = ab_aft 93 89 19 ls st (ab_Cl 93 [v0, v1, v2] w) := E_call3 rfl h1 h8
theorem e_89_22 {ls : ab_L} {st : List Value} {w : ab_W} {x y : Int32} : ab_Run ab_mt 89 22 ls (.int y :: .int x :: st) w = ab_Run ab_mt 89 23 ls (.int (x + y) :: st) w := E_ib (f := fun x y => x + y) rfl
theorem e_89_23 {ls : ab_L} {st : List Value} {w : ab_W} {x : Int32} : ab_Run ab_mt 89 23 ls (.int x :: st) w = ab_Run ab_mt 89 25 (ab_l1 ls 6 (.int x)) st w := E_stori (n := 2) rfl
theorem e_89_25 {ls : ab_L} {st : List Value} {w : ab_W} (h : ab_isR (ls 0) = true) : ab_Run ab_mt 89 25 ls st w = ab_Run ab_mt 89 26 ls (ab_gv (ls 0) :: st) w := E_loadr (n := 1) rfl h
theorem e_89_26 {ls : ab_L} {st : List Value} {w : ab_W} (h : ab_isL (ls 4) = true) (h2 : (ls 5).isNone = true) : ab_Run ab_mt 89 26 ls st w = ab_Run ab_mt 89 28 ls (ab_gv (ls 4) :: st) w := E_loadl (n := 2) rfl h h2
theorem e_89_28 {ls : ab_L} {st : List Value} {w : ab_W} {a : Nat} {x : Int64} (h : ab_isF 4 7 (w.2 a) = true) : ab_Run ab_mt 89 28 ls (.long x :: .ref a :: st) w = ab_Run ab_mt 89 31 ls st (w.1, ab_up w.2 a (ab_sf 7 (.long x) (w.2 a))) := E_put rfl h rfl
theorem e_89_31 {ls : ab_L} {st : List Value} {w : ab_W} (h : ab_isR (ls 0) = true) : ab_Run ab_mt 89 31 ls st w = ab_Run ab_mt 89 32 ls (ab_gv (ls 0) :: st) w := E_loadr (n := 1) rfl h
theorem e_89_32 {ls : ab_L} {st : List Value} {w : ab_W} (h : ab_isL (ls 4) = true) (h2 : (ls 5).isNone = true) : ab_Run ab_mt 89 32 ls st w = ab_Run ab_mt 89 34 ls (ab_gv (ls 4) :: st) w := E_loadl (n := 2) rfl h h2
theorem e_89_34 {ls : ab_L} {st : List Value} {w : ab_W} (h : ab_isR (ls 0) = true) : ab_Run ab_mt 89 34 ls st w = ab_Run ab_mt 89 35 ls (ab_gv (ls 0) :: st) w := E_loadr (n := 1) rfl h
theorem e_89_35 {ls : ab_L} {st : List Value} {w : ab_W} (h : ab_isR (ls 1) = true) : ab_Run ab_mt 89 35 ls st w = ab_Run ab_mt 89 36 ls (ab_gv (ls 1) :: st) w := E_loadr (n := 1) rfl h
theorem e_89_36 {ls : ab_L} {st : List Value} {w : ab_W} {v0 v1 : Value} (h1 : ab_recv ab_mt 83 [v0, v1] w.2 = true) (h8 : ab_w8 st = true) : ab_Run ab_mt 89 36 ls (v1 :: v0 :: st) w = ab_aft 83 89 36 ls st (ab_Cl 83 [v0, v1] w) := E_call2 rfl h1 h8
theorem e_89_39 {ls : ab_L} {st : List Value} {w : ab_W} {x y : Int64} : ab_Run ab_mt 89 39 ls (.long y :: .long x :: st) w = ab_Run ab_mt 89 40 ls (.int (lg_cmp x y) :: st) w := E_lcmp rfl
theorem e_89_40 {ls : ab_L} {st : List Value} {w : ab_W} {x : Int32} : ab_Run ab_mt 89 40 ls (.int x :: st) w = if 0 ≤ x then ab_Run ab_mt 89 47 ls st w else ab_Run ab_mt 89 43 ls st w := E_if_ge rfl
theorem e_89_43 {ls : ab_L} {st : List Value} {w : ab_W} : ab_Run ab_mt 89 43 ls st w = ab_Run ab_mt 89 44 ls (.int (nI 1) :: st) w := E_push (n := 1) rfl
theorem e_89_44 {ls : ab_L} {st : List Value} {w : ab_W} : ab_Run ab_mt 89 44 ls st w = ab_Run ab_mt 89 48 ls st w := E_goto rfl
theorem e_89_47 {ls : ab_L} {st : List Value} {w : ab_W} : ab_Run ab_mt 89 47 ls st w = ab_Run ab_mt 89 48 ls (.int (nI 0) :: st) w := E_push (n := 1) rfl
theorem e_89_48 {ls : ab_L} {st : List Value} {w : ab_W} {a : Nat} {x : Int32} (h : ab_isF 4 6 (w.2 a) = true) (h2 : ab_fit 2 (.int x) = true) : ab_Run ab_mt 89 48 ls (.int x :: .ref a :: st) w = ab_Run ab_mt 89 51 ls st (w.1, ab_up w.2 a (ab_sf 6 (.int x) (w.2 a))) := E_put rfl h h2
theorem e_89_51 {ls : ab_L} {st : List Value} {w : ab_W} (h : ab_isI (ls 6) = true) : ab_Run ab_mt 89 51 ls st w = ab_Run ab_mt 89 53 ls (ab_gv (ls 6) :: st) w := E_loadi (n := 2) rfl h
theorem e_89_53 {ls : ab_L} {w : ab_W} {x : Int32} : ab_Run ab_mt 89 53 ls [.int x] w = some (.inl (some (.int x)), w) := E_reti rfl
theorem rv_89 {σ : ab_S} {t : Nat} {x0 : Nat} {x1 : Int64} : ab_recv ab_mt 89 [.ref t, .ref x0, .long x1] σ = ab_isO 4 (σ t) := rfl
theorem x_89_12 {ls : ab_L} {rest : List Value} {E : Nat} {w : ab_W} : ab_aft 90 89 12 ls rest (some (.inr E, w)) = some (.inr E, w) := ab_aft_x rfl rfl (by unfold ab_hand; rfl)
theorem x_89_19 {ls : ab_L} {rest : List Value} {E : Nat} {w : ab_W} : ab_aft 93 89 19 ls rest (some (.inr E, w)) = some (.inr E, w) := ab_aft_x rfl rfl (by unfold ab_hand; rfl)
theorem e_90_0 {ls : ab_L} {st : List Value} {w : ab_W} : ab_Run ab_mt 90 0 ls st w = ab_Run ab_mt 90 1 ls (.int (nI 0) :: st) w := E_push (n := 1) rfl
theorem e_90_1 {ls : ab_L} {st : List Value} {w : ab_W} {x : Int32} : ab_Run ab_mt 90 1 ls (.int x :: st) w = ab_Run ab_mt 90 3 (ab_l1 ls 4 (.int x)) st w := E_stori (n := 2) rfl
theorem e_90_3 {ls : ab_L} {st : List Value} {w : ab_W} (h : ab_isI (ls 4) = true) : ab_Run ab_mt 90 3 ls st w = ab_Run ab_mt 90 5 ls (ab_gv (ls 4) :: st) w := E_loadi (n := 2) rfl h
theorem e_90_5 {ls : ab_L} {st : List Value} {w : ab_W} : ab_Run ab_mt 90 5 ls st w = ab_Run ab_mt 90 8 ls (.int (nI 2312) :: st) w := E_push (n := 3) rfl
theorem e_90_8 {ls : ab_L} {st : List Value} {w : ab_W} {x y : Int32} : ab_Run ab_mt 90 8 ls (.int y :: .int x :: st) w = if y ≤ x then ab_Run ab_mt 90 34 ls st w else ab_Run ab_mt 90 11 ls st w := E_ic_ge rfl
theorem e_90_11 {ls : ab_L} {st : List Value} {w : ab_W} (h : ab_isR (ls 0) = true) : ab_Run ab_mt 90 11 ls st w = ab_Run ab_mt 90 12 ls (ab_gv (ls 0) :: st) w := E_loadr (n := 1) rfl h
theorem e_90_12 {ls : ab_L} {st : List Value} {w : ab_W} (h : ab_isR (ls 1) = true) : ab_Run ab_mt 90 12 ls st w = ab_Run ab_mt 90 13 ls (ab_gv (ls 1) :: st) w := E_loadr (n := 1) rfl h
theorem e_90_13 {ls : ab_L} {st : List Value} {w : ab_W} {v0 v1 : Value} (h1 : ab_recv ab_mt 85 [v0, v1] w.2 = true) (h8 : ab_w8 st = true) : ab_Run ab_mt 90 13 ls (v1 :: v0 :: st) w = ab_aft 85 90 13 ls st (ab_Cl 85 [v0, v1] w) := E_call2 rfl h1 h8
theorem e_90_16 {ls : ab_L} {st : List Value} {w : ab_W} (h : ab_isL (ls 2) = true) (h2 : (ls 3).isNone = true) : ab_Run ab_mt 90 16 ls st w = ab_Run ab_mt 90 17 ls (ab_gv (ls 2) :: st) w := E_loadl (n := 1) rfl h h2
theorem e_90_17 {ls : ab_L} {st : List Value} {w : ab_W} {v0 v1 : Value} (h1 : ab_recv ab_mt 91 [v0, v1] w.2 = true) (h8 : ab_w8 st = true) : ab_Run ab_mt 90 17 ls (v1 :: v0 :: st) w = ab_aft 91 90 17 ls st (ab_Cl 91 [v0, v1] w) := E_call2 rfl h1 h8
theorem e_90_20 {ls : ab_L} {st : List Value} {w : ab_W} {x : Int32} : ab_Run ab_mt 90 20 ls (.int x :: st) w = if x = 0 then ab_Run ab_mt 90 34 ls st w else ab_Run ab_mt 90 23 ls st w := E_if_eq rfl
theorem e_90_23 {ls : ab_L} {st : List Value} {w : ab_W} (h : ab_isR (ls 0) = true) : ab_Run ab_mt 90 23 ls st w = ab_Run ab_mt 90 24 ls (ab_gv (ls 0) :: st) w := E_loadr (n := 1) rfl h
theorem e_90_24 {ls : ab_L} {st : List Value} {w : ab_W} (h : ab_isR (ls 1) = true) : ab_Run ab_mt 90 24 ls st w = ab_Run ab_mt 90 25 ls (ab_gv (ls 1) :: st) w := E_loadr (n := 1) rfl h
theorem e_90_25 {ls : ab_L} {st : List Value} {w : ab_W} {v0 v1 : Value} (h1 : ab_recv ab_mt 92 [v0, v1] w.2 = true) (h8 : ab_w8 st = true) : ab_Run ab_mt 90 25 ls (v1 :: v0 :: st) w = ab_aft 92 90 25 ls st (ab_Cl 92 [v0, v1] w) := E_call2 rfl h1 h8
theorem e_90_28 {ls : ab_L} {st : List Value} {w : ab_W} (h : ab_isI (ls 4) = true) : ab_Run ab_mt 90 28 ls st w = ab_Run ab_mt 90 31 (ab_l1 ls 4 (.int (ab_gi (ls 4) + (nI 1)))) st w := E_iinc rfl h
theorem e_90_31 {ls : ab_L} {st : List Value} {w : ab_W} : ab_Run ab_mt 90 31 ls st w = ab_Run ab_mt 90 3 ls st w := E_goto rfl
theorem e_90_34 {ls : ab_L} {st : List Value} {w : ab_W} (h : ab_isR (ls 0) = true) : ab_Run ab_mt 90 34 ls st w = ab_Run ab_mt 90 35 ls (ab_gv (ls 0) :: st) w := E_loadr (n := 1) rfl h
theorem e_90_35 {ls : ab_L} {st : List Value} {w : ab_W} {x : Nat} : ab_Run ab_mt 90 35 ls (.ref x :: st) w = ab_Run ab_mt 90 36 ls (.ref x :: .ref x :: st) w := E_dup_r rfl
theorem e_90_36 {ls : ab_L} {st : List Value} {w : ab_W} {a : Nat} (h : ab_isF 4 8 (w.2 a) = true) : ab_Run ab_mt 90 36 ls (.ref a :: st) w = ab_Run ab_mt 90 39 ls (ab_fv 8 (w.2 a) :: st) w := E_get rfl h
theorem e_90_39 {ls : ab_L} {st : List Value} {w : ab_W} (h : ab_isI (ls 4) = true) : ab_Run ab_mt 90 39 ls st w = ab_Run ab_mt 90 41 ls (ab_gv (ls 4) :: st) w := E_loadi (n := 2) rfl h
theorem e_90_41 {ls : ab_L} {st : List Value} {w : ab_W} {x y : Int32} : ab_Run ab_mt 90 41 ls (.int y :: .int x :: st) w = ab_Run ab_mt 90 42 ls (.int (x + y) :: st) w := E_ib (f := fun x y => x + y) rfl
theorem e_90_42 {ls : ab_L} {st : List Value} {w : ab_W} {a : Nat} {x : Int32} (h : ab_isF 4 8 (w.2 a) = true) : ab_Run ab_mt 90 42 ls (.int x :: .ref a :: st) w = ab_Run ab_mt 90 45 ls st (w.1, ab_up w.2 a (ab_sf 8 (.int x) (w.2 a))) := E_put rfl h rfl
theorem e_90_45 {ls : ab_L} {st : List Value} {w : ab_W} (h : ab_isI (ls 4) = true) : ab_Run ab_mt 90 45 ls st w = ab_Run ab_mt 90 47 ls (ab_gv (ls 4) :: st) w := E_loadi (n := 2) rfl h
theorem e_90_47 {ls : ab_L} {w : ab_W} {x : Int32} : ab_Run ab_mt 90 47 ls [.int x] w = some (.inl (some (.int x)), w) := E_reti rfl
theorem rv_90 {σ : ab_S} {t : Nat} {x0 : Nat} {x1 : Int64} : ab_recv ab_mt 90 [.ref t, .ref x0, .long x1] σ = ab_isO 4 (σ t) := rfl
theorem e_91_0 {ls : ab_L} {st : List Value} {w : ab_W} (h : ab_isL (ls 0) = true) (h2 : (ls 1).isNone = true) : ab_Run ab_mt 91 0 ls st w = ab_Run ab_mt 91 1 ls (ab_gv (ls 0) :: st) w := E_loadl (n := 1) rfl h h2
theorem e_91_1 {ls : ab_L} {st : List Value} {w : ab_W} : ab_Run ab_mt 91 1 ls st w = ab_Run ab_mt 91 4 ls (.long (-1) :: st) w := E_push (n := 3) rfl
theorem e_91_4 {ls : ab_L} {st : List Value} {w : ab_W} {x y : Int64} : ab_Run ab_mt 91 4 ls (.long y :: .long x :: st) w = ab_Run ab_mt 91 5 ls (.int (lg_cmp x y) :: st) w := E_lcmp rfl
theorem e_91_5 {ls : ab_L} {st : List Value} {w : ab_W} {x : Int32} : ab_Run ab_mt 91 5 ls (.int x :: st) w = if x = 0 then ab_Run ab_mt 91 18 ls st w else ab_Run ab_mt 91 8 ls st w := E_if_eq rfl
theorem e_91_8 {ls : ab_L} {st : List Value} {w : ab_W} (h : ab_isL (ls 0) = true) (h2 : (ls 1).isNone = true) : ab_Run ab_mt 91 8 ls st w = ab_Run ab_mt 91 9 ls (ab_gv (ls 0) :: st) w := E_loadl (n := 1) rfl h h2
theorem e_91_9 {ls : ab_L} {st : List Value} {w : ab_W} (h : ab_isL (ls 2) = true) (h2 : (ls 3).isNone = true) : ab_Run ab_mt 91 9 ls st w = ab_Run ab_mt 91 10 ls (ab_gv (ls 2) :: st) w := E_loadl (n := 1) rfl h h2
theorem e_91_10 {ls : ab_L} {st : List Value} {w : ab_W} {x y : Int64} : ab_Run ab_mt 91 10 ls (.long y :: .long x :: st) w = ab_Run ab_mt 91 11 ls (.int (lg_cmp x y) :: st) w := E_lcmp rfl
theorem e_91_11 {ls : ab_L} {st : List Value} {w : ab_W} {x : Int32} : ab_Run ab_mt 91 11 ls (.int x :: st) w = if 0 ≤ x then ab_Run ab_mt 91 18 ls st w else ab_Run ab_mt 91 14 ls st w := E_if_ge rfl
theorem e_91_14 {ls : ab_L} {st : List Value} {w : ab_W} : ab_Run ab_mt 91 14 ls st w = ab_Run ab_mt 91 15 ls (.int (nI 1) :: st) w := E_push (n := 1) rfl
theorem e_91_15 {ls : ab_L} {st : List Value} {w : ab_W} : ab_Run ab_mt 91 15 ls st w = ab_Run ab_mt 91 19 ls st w := E_goto rfl
theorem e_91_18 {ls : ab_L} {st : List Value} {w : ab_W} : ab_Run ab_mt 91 18 ls st w = ab_Run ab_mt 91 19 ls (.int (nI 0) :: st) w := E_push (n := 1) rfl
theorem e_91_19 {ls : ab_L} {w : ab_W} {x : Int32} (h : ab_fitr 2 (.int x) = true) : ab_Run ab_mt 91 19 ls [.int x] w = some (.inl (some (.int x)), w) := E_retz rfl h
theorem rv_91 {σ : ab_S} {x0 : Int64} {x1 : Int64} : ab_recv ab_mt 91 [.long x0, .long x1] σ = true := rfl
theorem e_92_0 {ls : ab_L} {st : List Value} {w : ab_W} (h : ab_isR (ls 0) = true) : ab_Run ab_mt 92 0 ls st w = ab_Run ab_mt 92 1 ls (ab_gv (ls 0) :: st) w := E_loadr (n := 1) rfl h
theorem e_92_1 {ls : ab_L} {st : List Value} {w : ab_W} {a : Nat} (h : ab_isF 4 3 (w.2 a) = true) : ab_Run ab_mt 92 1 ls (.ref a :: st) w = ab_Run ab_mt 92 4 ls (ab_fv 3 (w.2 a) :: st) w := E_get rfl h
theorem e_92_4 {ls : ab_L} {st : List Value} {w : ab_W} (h : ab_isR (ls 0) = true) : ab_Run ab_mt 92 4 ls st w = ab_Run ab_mt 92 5 ls (ab_gv (ls 0) :: st) w := E_loadr (n := 1) rfl h
theorem e_92_5 {ls : ab_L} {st : List Value} {w : ab_W} {a : Nat} (h : ab_isF 4 1 (w.2 a) = true) : ab_Run ab_mt 92 5 ls (.ref a :: st) w = ab_Run ab_mt 92 8 ls (ab_fv 1 (w.2 a) :: st) w := E_get rfl h
theorem e_92_8 {ls : ab_L} {st : List Value} {w : ab_W} {x y : Int32} : ab_Run ab_mt 92 8 ls (.int y :: .int x :: st) w = if y ≤ x then ab_Run ab_mt 92 22 ls st w else ab_Run ab_mt 92 11 ls st w := E_ic_ge rfl
theorem e_92_11 {ls : ab_L} {st : List Value} {w : ab_W} (h : ab_isR (ls 0) = true) : ab_Run ab_mt 92 11 ls st w = ab_Run ab_mt 92 12 ls (ab_gv (ls 0) :: st) w := E_loadr (n := 1) rfl h
theorem e_92_12 {ls : ab_L} {st : List Value} {w : ab_W} {x : Nat} : ab_Run ab_mt 92 12 ls (.ref x :: st) w = ab_Run ab_mt 92 13 ls (.ref x :: .ref x :: st) w := E_dup_r rfl
theorem e_92_13 {ls : ab_L} {st : List Value} {w : ab_W} {a : Nat} (h : ab_isF 4 3 (w.2 a) = true) : ab_Run ab_mt 92 13 ls (.ref a :: st) w = ab_Run ab_mt 92 16 ls (ab_fv 3 (w.2 a) :: st) w := E_get rfl h
theorem e_92_16 {ls : ab_L} {st : List Value} {w : ab_W} : ab_Run ab_mt 92 16 ls st w = ab_Run ab_mt 92 17 ls (.int (nI 1) :: st) w := E_push (n := 1) rfl
theorem e_92_17 {ls : ab_L} {st : List Value} {w : ab_W} {x y : Int32} : ab_Run ab_mt 92 17 ls (.int y :: .int x :: st) w = ab_Run ab_mt 92 18 ls (.int (x + y) :: st) w := E_ib (f := fun x y => x + y) rfl
theorem e_92_18 {ls : ab_L} {st : List Value} {w : ab_W} {a : Nat} {x : Int32} (h : ab_isF 4 3 (w.2 a) = true) : ab_Run ab_mt 92 18 ls (.int x :: .ref a :: st) w = ab_Run ab_mt 92 21 ls st (w.1, ab_up w.2 a (ab_sf 3 (.int x) (w.2 a))) := E_put rfl h rfl
theorem e_92_21 {ls : ab_L} {w : ab_W} : ab_Run ab_mt 92 21 ls [] w = some (.inl none, w) := E_ret0 rfl
theorem e_92_22 {ls : ab_L} {st : List Value} {w : ab_W} (h : ab_isR (ls 0) = true) : ab_Run ab_mt 92 22 ls st w = ab_Run ab_mt 92 23 ls (ab_gv (ls 0) :: st) w := E_loadr (n := 1) rfl h
theorem e_92_23 {ls : ab_L} {st : List Value} {w : ab_W} {a : Nat} (h : ab_isF 4 5 (w.2 a) = true) : ab_Run ab_mt 92 23 ls (.ref a :: st) w = ab_Run ab_mt 92 26 ls (ab_fv 5 (w.2 a) :: st) w := E_get rfl h
theorem e_92_26 {ls : ab_L} {st : List Value} {w : ab_W} {x : Int32} : ab_Run ab_mt 92 26 ls (.int x :: st) w = if x = 0 then ab_Run ab_mt 92 29 ls st w else ab_Run ab_mt 92 46 ls st w := E_if_ne rfl
theorem e_92_29 {ls : ab_L} {st : List Value} {w : ab_W} (h : ab_isR (ls 0) = true) : ab_Run ab_mt 92 29 ls st w = ab_Run ab_mt 92 30 ls (ab_gv (ls 0) :: st) w := E_loadr (n := 1) rfl h
theorem e_92_30 {ls : ab_L} {st : List Value} {w : ab_W} {x : Nat} : ab_Run ab_mt 92 30 ls (.ref x :: st) w = ab_Run ab_mt 92 31 ls (.ref x :: .ref x :: st) w := E_dup_r rfl
theorem e_92_31 {ls : ab_L} {st : List Value} {w : ab_W} {a : Nat} (h : ab_isF 4 9 (w.2 a) = true) : ab_Run ab_mt 92 31 ls (.ref a :: st) w = ab_Run ab_mt 92 34 ls (ab_fv 9 (w.2 a) :: st) w := E_get rfl h
theorem e_92_34 {ls : ab_L} {st : List Value} {w : ab_W} (h : ab_isR (ls 1) = true) : ab_Run ab_mt 92 34 ls st w = ab_Run ab_mt 92 35 ls (ab_gv (ls 1) :: st) w := E_loadr (n := 1) rfl h
theorem e_92_35 {ls : ab_L} {st : List Value} {w : ab_W} (h : ab_isR (ls 0) = true) : ab_Run ab_mt 92 35 ls st w = ab_Run ab_mt 92 36 ls (ab_gv (ls 0) :: st) w := E_loadr (n := 1) rfl h
theorem e_92_36 {ls : ab_L} {st : List Value} {w : ab_W} {a : Nat} (h : ab_isF 4 4 (w.2 a) = true) : ab_Run ab_mt 92 36 ls (.ref a :: st) w = ab_Run ab_mt 92 39 ls (ab_fv 4 (w.2 a) :: st) w := E_get rfl h
theorem e_92_39 {ls : ab_L} {st : List Value} {w : ab_W} {v0 v1 : Value} (h1 : ab_recv ab_mt 61 [v0, v1] w.2 = true) (h8 : ab_w8 st = true) : ab_Run ab_mt 92 39 ls (v1 :: v0 :: st) w = ab_aft 61 92 39 ls st (ab_Cl 61 [v0, v1] w) := E_call2 rfl h1 h8
theorem e_92_42 {ls : ab_L} {st : List Value} {w : ab_W} {x y : Int32} : ab_Run ab_mt 92 42 ls (.int y :: .int x :: st) w = ab_Run ab_mt 92 43 ls (.int (x + y) :: st) w := E_ib (f := fun x y => x + y) rfl
theorem e_92_43 {ls : ab_L} {st : List Value} {w : ab_W} {a : Nat} {x : Int32} (h : ab_isF 4 9 (w.2 a) = true) : ab_Run ab_mt 92 43 ls (.int x :: .ref a :: st) w = ab_Run ab_mt 92 46 ls st (w.1, ab_up w.2 a (ab_sf 9 (.int x) (w.2 a))) := E_put rfl h rfl
theorem e_92_46 {ls : ab_L} {st : List Value} {w : ab_W} (h : ab_isR (ls 0) = true) : ab_Run ab_mt 92 46 ls st w = ab_Run ab_mt 92 47 ls (ab_gv (ls 0) :: st) w := E_loadr (n := 1) rfl h
theorem e_92_47 {ls : ab_L} {st : List Value} {w : ab_W} {x : Nat} : ab_Run ab_mt 92 47 ls (.ref x :: st) w = ab_Run ab_mt 92 48 ls (.ref x :: .ref x :: st) w := E_dup_r rfl
theorem e_92_48 {ls : ab_L} {st : List Value} {w : ab_W} {a : Nat} (h : ab_isF 4 5 (w.2 a) = true) : ab_Run ab_mt 92 48 ls (.ref a :: st) w = ab_Run ab_mt 92 51 ls (ab_fv 5 (w.2 a) :: st) w := E_get rfl h
theorem e_92_51 {ls : ab_L} {st : List Value} {w : ab_W} : ab_Run ab_mt 92 51 ls st w = ab_Run ab_mt 92 52 ls (.int (nI 1) :: st) w := E_push (n := 1) rfl
theorem e_92_52 {ls : ab_L} {st : List Value} {w : ab_W} {x y : Int32} : ab_Run ab_mt 92 52 ls (.int y :: .int x :: st) w = ab_Run ab_mt 92 53 ls (.int (x + y) :: st) w := E_ib (f := fun x y => x + y) rfl
theorem e_92_53 {ls : ab_L} {st : List Value} {w : ab_W} {a : Nat} {x : Int32} (h : ab_isF 4 5 (w.2 a) = true) : ab_Run ab_mt 92 53 ls (.int x :: .ref a :: st) w = ab_Run ab_mt 92 56 ls st (w.1, ab_up w.2 a (ab_sf 5 (.int x) (w.2 a))) := E_put rfl h rfl
theorem e_92_56 {ls : ab_L} {st : List Value} {w : ab_W} (h : ab_isR (ls 0) = true) : ab_Run ab_mt 92 56 ls st w = ab_Run ab_mt 92 57 ls (ab_gv (ls 0) :: st) w := E_loadr (n := 1) rfl h
theorem e_92_57 {ls : ab_L} {st : List Value} {w : ab_W} {a : Nat} (h : ab_isF 4 5 (w.2 a) = true) : ab_Run ab_mt 92 57 ls (.ref a :: st) w = ab_Run ab_mt 92 60 ls (ab_fv 5 (w.2 a) :: st) w := E_get rfl h
theorem e_92_60 {ls : ab_L} {st : List Value} {w : ab_W} (h : ab_isR (ls 1) = true) : ab_Run ab_mt 92 60 ls st w = ab_Run ab_mt 92 61 ls (ab_gv (ls 1) :: st) w := E_loadr (n := 1) rfl h
theorem e_92_61 {ls : ab_L} {st : List Value} {w : ab_W} (h : ab_isR (ls 0) = true) : ab_Run ab_mt 92 61 ls st w = ab_Run ab_mt 92 62 ls (ab_gv (ls 0) :: st) w := E_loadr (n := 1) rfl h
theorem e_92_62 {ls : ab_L} {st : List Value} {w : ab_W} {a : Nat} (h : ab_isF 4 4 (w.2 a) = true) : ab_Run ab_mt 92 62 ls (.ref a :: st) w = ab_Run ab_mt 92 65 ls (ab_fv 4 (w.2 a) :: st) w := E_get rfl h
theorem e_92_65 {ls : ab_L} {st : List Value} {w : ab_W} {v0 v1 : Value} (h1 : ab_recv ab_mt 62 [v0, v1] w.2 = true) (h8 : ab_w8 st = true) : ab_Run ab_mt 92 65 ls (v1 :: v0 :: st) w = ab_aft 62 92 65 ls st (ab_Cl 62 [v0, v1] w) := E_call2 rfl h1 h8
theorem e_92_68 {ls : ab_L} {st : List Value} {w : ab_W} {x y : Int32} : ab_Run ab_mt 92 68 ls (.int y :: .int x :: st) w = if x < y then ab_Run ab_mt 92 86 ls st w else ab_Run ab_mt 92 71 ls st w := E_ic_lt rfl
theorem e_92_71 {ls : ab_L} {st : List Value} {w : ab_W} (h : ab_isR (ls 0) = true) : ab_Run ab_mt 92 71 ls st w = ab_Run ab_mt 92 72 ls (ab_gv (ls 0) :: st) w := E_loadr (n := 1) rfl h
theorem e_92_72 {ls : ab_L} {st : List Value} {w : ab_W} : ab_Run ab_mt 92 72 ls st w = ab_Run ab_mt 92 73 ls (.int (nI 0) :: st) w := E_push (n := 1) rfl
theorem e_92_73 {ls : ab_L} {st : List Value} {w : ab_W} {a : Nat} {x : Int32} (h : ab_isF 4 5 (w.2 a) = true) : ab_Run ab_mt 92 73 ls (.int x :: .ref a :: st) w = ab_Run ab_mt 92 76 ls st (w.1, ab_up w.2 a (ab_sf 5 (.int x) (w.2 a))) := E_put rfl h rfl
theorem e_92_76 {ls : ab_L} {st : List Value} {w : ab_W} (h : ab_isR (ls 0) = true) : ab_Run ab_mt 92 76 ls st w = ab_Run ab_mt 92 77 ls (ab_gv (ls 0) :: st) w := E_loadr (n := 1) rfl h
theorem e_92_77 {ls : ab_L} {st : List Value} {w : ab_W} {x : Nat} : ab_Run ab_mt 92 77 ls (.ref x :: st) w = ab_Run ab_mt 92 78 ls (.ref x :: .ref x :: st) w := E_dup_r rfl
theorem e_92_78 {ls : ab_L} {st : List Value} {w : ab_W} {a : Nat} (h : ab_isF 4 4 (w.2 a) = true) : ab_Run ab_mt 92 78 ls (.ref a :: st) w = ab_Run ab_mt 92 81 ls (ab_fv 4 (w.2 a) :: st) w := E_get rfl h
theorem e_92_81 {ls : ab_L} {st : List Value} {w : ab_W} : ab_Run ab_mt 92 81 ls st w = ab_Run ab_mt 92 82 ls (.int (nI 1) :: st) w := E_push (n := 1) rfl
theorem e_92_82 {ls : ab_L} {st : List Value} {w : ab_W} {x y : Int32} : ab_Run ab_mt 92 82 ls (.int y :: .int x :: st) w = ab_Run ab_mt 92 83 ls (.int (x + y) :: st) w := E_ib (f := fun x y => x + y) rfl
theorem e_92_83 {ls : ab_L} {st : List Value} {w : ab_W} {a : Nat} {x : Int32} (h : ab_isF 4 4 (w.2 a) = true) : ab_Run ab_mt 92 83 ls (.int x :: .ref a :: st) w = ab_Run ab_mt 92 86 ls st (w.1, ab_up w.2 a (ab_sf 4 (.int x) (w.2 a))) := E_put rfl h rfl
theorem e_92_86 {ls : ab_L} {w : ab_W} : ab_Run ab_mt 92 86 ls [] w = some (.inl none, w) := E_ret0 rfl
theorem rv_92 {σ : ab_S} {t : Nat} {x0 : Nat} : ab_recv ab_mt 92 [.ref t, .ref x0] σ = ab_isO 4 (σ t) := rfl
theorem e_93_0 {ls : ab_L} {st : List Value} {w : ab_W} : ab_Run ab_mt 93 0 ls st w = ab_Run ab_mt 93 1 ls (.int (nI 0) :: st) w := E_push (n := 1) rfl
theorem e_93_1 {ls : ab_L} {st : List Value} {w : ab_W} {x : Int32} : ab_Run ab_mt 93 1 ls (.int x :: st) w = ab_Run ab_mt 93 3 (ab_l1 ls 4 (.int x)) st w := E_stori (n := 2) rfl
theorem e_93_3 {ls : ab_L} {st : List Value} {w : ab_W} : ab_Run ab_mt 93 3 ls st w = ab_Run ab_mt 93 4 ls (.int (nI 0) :: st) w := E_push (n := 1) rfl
theorem e_93_4 {ls : ab_L} {st : List Value} {w : ab_W} {x : Int32} : ab_Run ab_mt 93 4 ls (.int x :: st) w = ab_Run ab_mt 93 6 (ab_l1 ls 5 (.int x)) st w := E_stori (n := 2) rfl
theorem e_93_6 {ls : ab_L} {st : List Value} {w : ab_W} (h : ab_isI (ls 5) = true) : ab_Run ab_mt 93 6 ls st w = ab_Run ab_mt 93 8 ls (ab_gv (ls 5) :: st) w := E_loadi (n := 2) rfl h
theorem e_93_8 {ls : ab_L} {st : List Value} {w : ab_W} (h : ab_isR (ls 1) = true) : ab_Run ab_mt 93 8 ls st w = ab_Run ab_mt 93 9 ls (ab_gv (ls 1) :: st) w := E_loadr (n := 1) rfl h
theorem e_93_9 {ls : ab_L} {st : List Value} {w : ab_W} {a : Nat} (h : ab_isF 1 0 (w.2 a) = true) : ab_Run ab_mt 93 9 ls (.ref a :: st) w = ab_Run ab_mt 93 12 ls (ab_fv 0 (w.2 a) :: st) w := E_get rfl h
theorem e_93_12 {ls : ab_L} {st : List Value} {w : ab_W} {a : Nat} (h : ab_isF 2 2 (w.2 a) = true) : ab_Run ab_mt 93 12 ls (.ref a :: st) w = ab_Run ab_mt 93 15 ls (ab_fv 2 (w.2 a) :: st) w := E_get rfl h
theorem e_93_15 {ls : ab_L} {st : List Value} {w : ab_W} {a : Nat} (h : ab_isF 3 3 (w.2 a) = true) : ab_Run ab_mt 93 15 ls (.ref a :: st) w = ab_Run ab_mt 93 18 ls (ab_fv 3 (w.2 a) :: st) w := E_get rfl h
theorem e_93_18 {ls : ab_L} {st : List Value} {w : ab_W} {x y : Int32} : ab_Run ab_mt 93 18 ls (.int y :: .int x :: st) w = if y ≤ x then ab_Run ab_mt 93 66 ls st w else ab_Run ab_mt 93 21 ls st w := E_ic_ge rfl
theorem e_93_21 {ls : ab_L} {st : List Value} {w : ab_W} (h : ab_isR (ls 0) = true) : ab_Run ab_mt 93 21 ls st w = ab_Run ab_mt 93 22 ls (ab_gv (ls 0) :: st) w := E_loadr (n := 1) rfl h
theorem e_93_22 {ls : ab_L} {st : List Value} {w : ab_W} (h : ab_isR (ls 1) = true) : ab_Run ab_mt 93 22 ls st w = ab_Run ab_mt 93 23 ls (ab_gv (ls 1) :: st) w := E_loadr (n := 1) rfl h
theorem e_93_23 {ls : ab_L} {st : List Value} {w : ab_W} (h : ab_isI (ls 5) = true) : ab_Run ab_mt 93 23 ls st w = ab_Run ab_mt 93 25 ls (ab_gv (ls 5) :: st) w := E_loadi (n := 2) rfl h
theorem e_93_25 {ls : ab_L} {st : List Value} {w : ab_W} {v0 v1 v2 : Value} (h1 : ab_recv ab_mt 87 [v0, v1, v2] w.2 = true) (h8 : ab_w8 st = true) : ab_Run ab_mt 93 25 ls (v2 :: v1 :: v0 :: st) w = ab_aft 87 93 25 ls st (ab_Cl 87 [v0, v1, v2] w) := E_call3 rfl h1 h8
theorem e_93_28 {ls : ab_L} {st : List Value} {w : ab_W} {x : Int64} : ab_Run ab_mt 93 28 ls (.long x :: st) w = ab_Run ab_mt 93 30 (ab_l2 ls 6 (.long x)) st w := E_storl (n := 2) rfl
theorem e_93_30 {ls : ab_L} {st : List Value} {w : ab_W} (h : ab_isR (ls 0) = true) : ab_Run ab_mt 93 30 ls st w = ab_Run ab_mt 93 31 ls (ab_gv (ls 0) :: st) w := E_loadr (n := 1) rfl h
theorem e_93_31 {ls : ab_L} {st : List Value} {w : ab_W} (h : ab_isR (ls 1) = true) : ab_Run ab_mt 93 31 ls st w = ab_Run ab_mt 93 32 ls (ab_gv (ls 1) :: st) w := E_loadr (n := 1) rfl h
theorem e_93_32 {ls : ab_L} {st : List Value} {w : ab_W} (h : ab_isI (ls 5) = true) : ab_Run ab_mt 93 32 ls st w = ab_Run ab_mt 93 34 ls (ab_gv (ls 5) :: st) w := E_loadi (n := 2) rfl h
theorem e_93_34 {ls : ab_L} {st : List Value} {w : ab_W} {v0 v1 v2 : Value} (h1 : ab_recv ab_mt 86 [v0, v1, v2] w.2 = true) (h8 : ab_w8 st = true) : ab_Run ab_mt 93 34 ls (v2 :: v1 :: v0 :: st) w = ab_aft 86 93 34 ls st (ab_Cl 86 [v0, v1, v2] w) := E_call3 rfl h1 h8
theorem e_93_37 {ls : ab_L} {st : List Value} {w : ab_W} {x : Int32} : ab_Run ab_mt 93 37 ls (.int x :: st) w = if x = 0 then ab_Run ab_mt 93 60 ls st w else ab_Run ab_mt 93 40 ls st w := E_if_eq rfl
theorem e_93_40 {ls : ab_L} {st : List Value} {w : ab_W} (h : ab_isL (ls 6) = true) (h2 : (ls 7).isNone = true) : ab_Run ab_mt 93 40 ls st w = ab_Run ab_mt 93 42 ls (ab_gv (ls 6) :: st) w := E_loadl (n := 2) rfl h h2
theorem e_93_42 {ls : ab_L} {st : List Value} {w : ab_W} (h : ab_isR (ls 0) = true) : ab_Run ab_mt 93 42 ls st w = ab_Run ab_mt 93 43 ls (ab_gv (ls 0) :: st) w := E_loadr (n := 1) rfl h
theorem e_93_43 {ls : ab_L} {st : List Value} {w : ab_W} {a : Nat} (h : ab_isF 4 7 (w.2 a) = true) : ab_Run ab_mt 93 43 ls (.ref a :: st) w = ab_Run ab_mt 93 46 ls (ab_fv 7 (w.2 a) :: st) w := E_get rfl h
theorem e_93_46 {ls : ab_L} {st : List Value} {w : ab_W} {x y : Int64} : ab_Run ab_mt 93 46 ls (.long y :: .long x :: st) w = ab_Run ab_mt 93 47 ls (.int (lg_cmp x y) :: st) w := E_lcmp rfl
theorem e_93_47 {ls : ab_L} {st : List Value} {w : ab_W} {x : Int32} : ab_Run ab_mt 93 47 ls (.int x :: st) w = if x < 0 then ab_Run ab_mt 93 60 ls st w else ab_Run ab_mt 93 50 ls st w := E_if_lt rfl
theorem e_93_50 {ls : ab_L} {st : List Value} {w : ab_W} (h : ab_isL (ls 6) = true) (h2 : (ls 7).isNone = true) : ab_Run ab_mt 93 50 ls st w = ab_Run ab_mt 93 52 ls (ab_gv (ls 6) :: st) w := E_loadl (n := 2) rfl h h2
theorem e_93_52 {ls : ab_L} {st : List Value} {w : ab_W} (h : ab_isL (ls 2) = true) (h2 : (ls 3).isNone = true) : ab_Run ab_mt 93 52 ls st w = ab_Run ab_mt 93 53 ls (ab_gv (ls 2) :: st) w := E_loadl (n := 1) rfl h h2
theorem e_93_53 {ls : ab_L} {st : List Value} {w : ab_W} {x y : Int64} : ab_Run ab_mt 93 53 ls (.long y :: .long x :: st) w = ab_Run ab_mt 93 54 ls (.int (lg_cmp x y) :: st) w := E_lcmp rfl
theorem e_93_54 {ls : ab_L} {st : List Value} {w : ab_W} {x : Int32} : ab_Run ab_mt 93 54 ls (.int x :: st) w = if 0 ≤ x then ab_Run ab_mt 93 60 ls st w else ab_Run ab_mt 93 57 ls st w := E_if_ge rfl
theorem e_93_57 {ls : ab_L} {st : List Value} {w : ab_W} (h : ab_isI (ls 4) = true) : ab_Run ab_mt 93 57 ls st w = ab_Run ab_mt 93 60 (ab_l1 ls 4 (.int (ab_gi (ls 4) + (nI 1)))) st w := E_iinc rfl h
theorem e_93_60 {ls : ab_L} {st : List Value} {w : ab_W} (h : ab_isI (ls 5) = true) : ab_Run ab_mt 93 60 ls st w = ab_Run ab_mt 93 63 (ab_l1 ls 5 (.int (ab_gi (ls 5) + (nI 1)))) st w := E_iinc rfl h
theorem e_93_63 {ls : ab_L} {st : List Value} {w : ab_W} : ab_Run ab_mt 93 63 ls st w = ab_Run ab_mt 93 6 ls st w := E_goto rfl
theorem e_93_66 {ls : ab_L} {st : List Value} {w : ab_W} (h : ab_isR (ls 0) = true) : ab_Run ab_mt 93 66 ls st w = ab_Run ab_mt 93 67 ls (ab_gv (ls 0) :: st) w := E_loadr (n := 1) rfl h
theorem e_93_67 {ls : ab_L} {st : List Value} {w : ab_W} {x : Nat} : ab_Run ab_mt 93 67 ls (.ref x :: st) w = ab_Run ab_mt 93 68 ls (.ref x :: .ref x :: st) w := E_dup_r rfl
theorem e_93_68 {ls : ab_L} {st : List Value} {w : ab_W} {a : Nat} (h : ab_isF 4 10 (w.2 a) = true) : ab_Run ab_mt 93 68 ls (.ref a :: st) w = ab_Run ab_mt 93 71 ls (ab_fv 10 (w.2 a) :: st) w := E_get rfl h
theorem e_93_71 {ls : ab_L} {st : List Value} {w : ab_W} (h : ab_isI (ls 4) = true) : ab_Run ab_mt 93 71 ls st w = ab_Run ab_mt 93 73 ls (ab_gv (ls 4) :: st) w := E_loadi (n := 2) rfl h
theorem e_93_73 {ls : ab_L} {st : List Value} {w : ab_W} {x y : Int32} : ab_Run ab_mt 93 73 ls (.int y :: .int x :: st) w = ab_Run ab_mt 93 74 ls (.int (x + y) :: st) w := E_ib (f := fun x y => x + y) rfl
theorem e_93_74 {ls : ab_L} {st : List Value} {w : ab_W} {a : Nat} {x : Int32} (h : ab_isF 4 10 (w.2 a) = true) : ab_Run ab_mt 93 74 ls (.int x :: .ref a :: st) w = ab_Run ab_mt 93 77 ls st (w.1, ab_up w.2 a (ab_sf 10 (.int x) (w.2 a))) := E_put rfl h rfl
theorem e_93_77 {ls : ab_L} {st : List Value} {w : ab_W} (h : ab_isI (ls 4) = true) : ab_Run ab_mt 93 77 ls st w = ab_Run ab_mt 93 79 ls (ab_gv (ls 4) :: st) w := E_loadi (n := 2) rfl h
theorem e_93_79 {ls : ab_L} {w : ab_W} {x : Int32} : ab_Run ab_mt 93 79 ls [.int x] w = some (.inl (some (.int x)), w) := E_reti rfl
theorem rv_93 {σ : ab_S} {t : Nat} {x0 : Nat} {x1 : Int64} : ab_recv ab_mt 93 [.ref t, .ref x0, .long x1] σ = ab_isO 4 (σ t) := rfl
theorem e_94_0 {ls : ab_L} {st : List Value} {w : ab_W} (h : ab_isR (ls 0) = true) : ab_Run ab_mt 94 0 ls st w = ab_Run ab_mt 94 1 ls (ab_gv (ls 0) :: st) w := E_loadr (n := 1) rfl h
theorem e_94_1 {ls : ab_L} {st : List Value} {w : ab_W} {a : Nat} (h8 : ab_w8 st = true) : ab_Run ab_mt 94 1 ls (.ref a :: st) w = ab_Run ab_mt 94 4 ls st w := E_oini rfl h8
theorem e_94_4 {ls : ab_L} {st : List Value} {w : ab_W} (h : ab_isR (ls 0) = true) : ab_Run ab_mt 94 4 ls st w = ab_Run ab_mt 94 5 ls (ab_gv (ls 0) :: st) w := E_loadr (n := 1) rfl h
theorem e_94_5 {ls : ab_L} {st : List Value} {w : ab_W} : ab_Run ab_mt 94 5 ls st w = ab_Run ab_mt 94 7 ls (.int (nI 8) :: st) w := E_push (n := 2) rfl
theorem e_94_7 {ls : ab_L} {st : List Value} {w : ab_W} {n : Int32} (h : w.1.1 = true) (hn : ¬ (n < 0 ∨ 60000 < n.toNatClampNeg)) : ab_Run ab_mt 94 7 ls (.int n :: st) w = ab_Run ab_mt 94 10 ls (.ref w.1.2.1 :: st) (ab_mk w.1 w.2 (ab_qa n.toNatClampNeg (ab_nq n.toNatClampNeg)) n.toNatClampNeg) := E_new (n := 3) (x := ab_qa n.toNatClampNeg (ab_nq n.toNatClampNeg)) (sz := n.toNatClampNeg) (rest := st) rfl (if_neg hn) h
theorem e_94_10 {ls : ab_L} {st : List Value} {w : ab_W} {a : Nat} {x : Nat} (h : ab_isF 5 0 (w.2 a) = true) : ab_Run ab_mt 94 10 ls (.ref x :: .ref a :: st) w = ab_Run ab_mt 94 13 ls st (w.1, ab_up w.2 a (ab_sf 0 (.ref x) (w.2 a))) := E_put rfl h rfl
theorem e_94_13 {ls : ab_L} {st : List Value} {w : ab_W} : ab_Run ab_mt 94 13 ls st w = ab_Run ab_mt 94 14 ls (.int (nI 0) :: st) w := E_push (n := 1) rfl
theorem e_94_14 {ls : ab_L} {st : List Value} {w : ab_W} {x : Int32} : ab_Run ab_mt 94 14 ls (.int x :: st) w = ab_Run ab_mt 94 15 (ab_l1 ls 1 (.int x)) st w := E_stori (n := 1) rfl
theorem e_94_15 {ls : ab_L} {st : List Value} {w : ab_W} (h : ab_isI (ls 1) = true) : ab_Run ab_mt 94 15 ls st w = ab_Run ab_mt 94 16 ls (ab_gv (ls 1) :: st) w := E_loadi (n := 1) rfl h
theorem e_94_16 {ls : ab_L} {st : List Value} {w : ab_W} (h : ab_isR (ls 0) = true) : ab_Run ab_mt 94 16 ls st w = ab_Run ab_mt 94 17 ls (ab_gv (ls 0) :: st) w := E_loadr (n := 1) rfl h
theorem e_94_17 {ls : ab_L} {st : List Value} {w : ab_W} {a : Nat} (h : ab_isF 5 0 (w.2 a) = true) : ab_Run ab_mt 94 17 ls (.ref a :: st) w = ab_Run ab_mt 94 20 ls (ab_fv 0 (w.2 a) :: st) w := E_get rfl h
theorem e_94_20 {ls : ab_L} {st : List Value} {w : ab_W} {a : Nat} (h : ab_isA (w.2 a) = true) : ab_Run ab_mt 94 20 ls (.ref a :: st) w = ab_Run ab_mt 94 21 ls (.int (nI (ab_ln (w.2 a))) :: st) w := E_alen rfl h
theorem e_94_21 {ls : ab_L} {st : List Value} {w : ab_W} {x y : Int32} : ab_Run ab_mt 94 21 ls (.int y :: .int x :: st) w = if y ≤ x then ab_Run ab_mt 94 43 ls st w else ab_Run ab_mt 94 24 ls st w := E_ic_ge rfl
theorem e_94_24 {ls : ab_L} {st : List Value} {w : ab_W} (h : ab_isR (ls 0) = true) : ab_Run ab_mt 94 24 ls st w = ab_Run ab_mt 94 25 ls (ab_gv (ls 0) :: st) w := E_loadr (n := 1) rfl h
theorem e_94_25 {ls : ab_L} {st : List Value} {w : ab_W} {a : Nat} (h : ab_isF 5 0 (w.2 a) = true) : ab_Run ab_mt 94 25 ls (.ref a :: st) w = ab_Run ab_mt 94 28 ls (ab_fv 0 (w.2 a) :: st) w := E_get rfl h
theorem e_94_28 {ls : ab_L} {st : List Value} {w : ab_W} (h : ab_isI (ls 1) = true) : ab_Run ab_mt 94 28 ls st w = ab_Run ab_mt 94 29 ls (ab_gv (ls 1) :: st) w := E_loadi (n := 1) rfl h
theorem e_94_29 {ls : ab_L} {st : List Value} {w : ab_W} (h : w.1.1 = true) : ab_Run ab_mt 94 29 ls st w = ab_Run ab_mt 94 32 ls (.ref w.1.2.1 :: st) (ab_mk w.1 w.2 (ab_ob 2 [.null, .null, .null]) 3) := E_new (n := 3) (x := ab_ob 2 [.null, .null, .null]) (sz := 3) (rest := st) rfl rfl h
theorem e_94_32 {ls : ab_L} {st : List Value} {w : ab_W} {x : Nat} : ab_Run ab_mt 94 32 ls (.ref x :: st) w = ab_Run ab_mt 94 33 ls (.ref x :: .ref x :: st) w := E_dup_r rfl
theorem e_94_33 {ls : ab_L} {st : List Value} {w : ab_W} {v0 : Value} (h1 : ab_recv ab_mt 71 [v0] w.2 = true) (h8 : ab_w8 st = true) : ab_Run ab_mt 94 33 ls (v0 :: st) w = ab_aft 71 94 33 ls st (ab_Cl 71 [v0] w) := E_call1 rfl h1 h8
theorem e_94_36 {ls : ab_L} {st : List Value} {w : ab_W} {a x : Nat} {i : Int32} (h : ab_inP i (w.2 a) = true) (h2 : ab_isO 2 (w.2 x) = true) : ab_Run ab_mt 94 36 ls (.ref x :: .int i :: .ref a :: st) w = ab_Run ab_mt 94 37 ls st (w.1, ab_up w.2 a (ab_sQ i.toNatClampNeg x (w.2 a))) := E_aast rfl h h2
theorem e_94_37 {ls : ab_L} {st : List Value} {w : ab_W} (h : ab_isI (ls 1) = true) : ab_Run ab_mt 94 37 ls st w = ab_Run ab_mt 94 40 (ab_l1 ls 1 (.int (ab_gi (ls 1) + (nI 1)))) st w := E_iinc rfl h
theorem e_94_40 {ls : ab_L} {st : List Value} {w : ab_W} : ab_Run ab_mt 94 40 ls st w = ab_Run ab_mt 94 15 ls st w := E_goto rfl
theorem e_94_43 {ls : ab_L} {w : ab_W} : ab_Run ab_mt 94 43 ls [] w = some (.inl none, w) := E_ret0 rfl
theorem rv_94 {σ : ab_S} {t : Nat} : ab_recv ab_mt 94 [.ref t] σ = ab_isO 5 (σ t) := rfl
theorem e_95_0 {ls : ab_L} {st : List Value} {w : ab_W} (h : ab_isR (ls 0) = true) : ab_Run ab_mt 95 0 ls st w = ab_Run ab_mt 95 1 ls (ab_gv (ls 0) :: st) w := E_loadr (n := 1) rfl h
theorem e_95_1 {ls : ab_L} {st : List Value} {w : ab_W} {a : Nat} (h : ab_isF 5 1 (w.2 a) = true) : ab_Run ab_mt 95 1 ls (.ref a :: st) w = ab_Run ab_mt 95 4 ls (ab_fv 1 (w.2 a) :: st) w := E_get rfl h
theorem e_95_4 {ls : ab_L} {st : List Value} {w : ab_W} (h : ab_isR (ls 0) = true) : ab_Run ab_mt 95 4 ls st w = ab_Run ab_mt 95 5 ls (ab_gv (ls 0) :: st) w := E_loadr (n := 1) rfl h
theorem e_95_5 {ls : ab_L} {st : List Value} {w : ab_W} {a : Nat} (h : ab_isF 5 0 (w.2 a) = true) : ab_Run ab_mt 95 5 ls (.ref a :: st) w = ab_Run ab_mt 95 8 ls (ab_fv 0 (w.2 a) :: st) w := E_get rfl h
theorem e_95_8 {ls : ab_L} {st : List Value} {w : ab_W} {a : Nat} (h : ab_isA (w.2 a) = true) : ab_Run ab_mt 95 8 ls (.ref a :: st) w = ab_Run ab_mt 95 9 ls (.int (nI (ab_ln (w.2 a))) :: st) w := E_alen rfl h
theorem e_95_9 {ls : ab_L} {st : List Value} {w : ab_W} {x y : Int32} : ab_Run ab_mt 95 9 ls (.int y :: .int x :: st) w = if x < y then ab_Run ab_mt 95 27 ls st w else ab_Run ab_mt 95 12 ls st w := E_ic_lt rfl
theorem e_95_12 {ls : ab_L} {st : List Value} {w : ab_W} (h : ab_isR (ls 0) = true) : ab_Run ab_mt 95 12 ls st w = ab_Run ab_mt 95 13 ls (ab_gv (ls 0) :: st) w := E_loadr (n := 1) rfl h
theorem e_95_13 {ls : ab_L} {st : List Value} {w : ab_W} {v0 : Value} (h1 : ab_recv ab_mt 96 [v0] w.2 = true) (h8 : ab_w8 st = true) : ab_Run ab_mt 95 13 ls (v0 :: st) w = ab_aft 96 95 13 ls st (ab_Cl 96 [v0] w) := E_call1 rfl h1 h8
theorem e_95_16 {ls : ab_L} {st : List Value} {w : ab_W} (h : ab_isR (ls 0) = true) : ab_Run ab_mt 95 16 ls st w = ab_Run ab_mt 95 17 ls (ab_gv (ls 0) :: st) w := E_loadr (n := 1) rfl h
theorem e_95_17 {ls : ab_L} {st : List Value} {w : ab_W} (h : ab_isR (ls 0) = true) : ab_Run ab_mt 95 17 ls st w = ab_Run ab_mt 95 18 ls (ab_gv (ls 0) :: st) w := E_loadr (n := 1) rfl h
theorem e_95_18 {ls : ab_L} {st : List Value} {w : ab_W} {a : Nat} (h : ab_isF 5 0 (w.2 a) = true) : ab_Run ab_mt 95 18 ls (.ref a :: st) w = ab_Run ab_mt 95 21 ls (ab_fv 0 (w.2 a) :: st) w := E_get rfl h
theorem e_95_21 {ls : ab_L} {st : List Value} {w : ab_W} {a : Nat} (h : ab_isA (w.2 a) = true) : ab_Run ab_mt 95 21 ls (.ref a :: st) w = ab_Run ab_mt 95 22 ls (.int (nI (ab_ln (w.2 a))) :: st) w := E_alen rfl h
theorem e_95_22 {ls : ab_L} {st : List Value} {w : ab_W} : ab_Run ab_mt 95 22 ls st w = ab_Run ab_mt 95 23 ls (.int (nI 1) :: st) w := E_push (n := 1) rfl
theorem e_95_23 {ls : ab_L} {st : List Value} {w : ab_W} {x y : Int32} : ab_Run ab_mt 95 23 ls (.int y :: .int x :: st) w = ab_Run ab_mt 95 24 ls (.int (x - y) :: st) w := E_ib (f := fun x y => x - y) rfl
theorem e_95_24 {ls : ab_L} {st : List Value} {w : ab_W} {a : Nat} {x : Int32} (h : ab_isF 5 1 (w.2 a) = true) : ab_Run ab_mt 95 24 ls (.int x :: .ref a :: st) w = ab_Run ab_mt 95 27 ls st (w.1, ab_up w.2 a (ab_sf 1 (.int x) (w.2 a))) := E_put rfl h rfl
theorem e_95_27 {ls : ab_L} {st : List Value} {w : ab_W} (h : ab_isR (ls 0) = true) : ab_Run ab_mt 95 27 ls st w = ab_Run ab_mt 95 28 ls (ab_gv (ls 0) :: st) w := E_loadr (n := 1) rfl h
theorem e_95_28 {ls : ab_L} {st : List Value} {w : ab_W} {a : Nat} (h : ab_isF 5 0 (w.2 a) = true) : ab_Run ab_mt 95 28 ls (.ref a :: st) w = ab_Run ab_mt 95 31 ls (ab_fv 0 (w.2 a) :: st) w := E_get rfl h
theorem e_95_31 {ls : ab_L} {st : List Value} {w : ab_W} (h : ab_isR (ls 0) = true) : ab_Run ab_mt 95 31 ls st w = ab_Run ab_mt 95 32 ls (ab_gv (ls 0) :: st) w := E_loadr (n := 1) rfl h
theorem e_95_32 {ls : ab_L} {st : List Value} {w : ab_W} {a : Nat} (h : ab_isF 5 1 (w.2 a) = true) : ab_Run ab_mt 95 32 ls (.ref a :: st) w = ab_Run ab_mt 95 35 ls (ab_fv 1 (w.2 a) :: st) w := E_get rfl h
theorem e_95_35 {ls : ab_L} {st : List Value} {w : ab_W} {a : Nat} {i : Int32} (h : ab_inQ i (w.2 a) = true) : ab_Run ab_mt 95 35 ls (.int i :: .ref a :: st) w = ab_Run ab_mt 95 36 ls (.ref (ab_aQ i.toNatClampNeg (w.2 a)) :: st) w := E_aald rfl h
theorem e_95_36 {ls : ab_L} {st : List Value} {w : ab_W} (h : ab_isR (ls 1) = true) : ab_Run ab_mt 95 36 ls st w = ab_Run ab_mt 95 37 ls (ab_gv (ls 1) :: st) w := E_loadr (n := 1) rfl h
theorem e_95_37 {ls : ab_L} {st : List Value} {w : ab_W} {v0 v1 : Value} (h1 : ab_recv ab_mt 73 [v0, v1] w.2 = true) (h8 : ab_w8 st = true) : ab_Run ab_mt 95 37 ls (v1 :: v0 :: st) w = ab_aft 73 95 37 ls st (ab_Cl 73 [v0, v1] w) := E_call2 rfl h1 h8
theorem e_95_40 {ls : ab_L} {st : List Value} {w : ab_W} (h : ab_isR (ls 0) = true) : ab_Run ab_mt 95 40 ls st w = ab_Run ab_mt 95 41 ls (ab_gv (ls 0) :: st) w := E_loadr (n := 1) rfl h
theorem e_95_41 {ls : ab_L} {st : List Value} {w : ab_W} {x : Nat} : ab_Run ab_mt 95 41 ls (.ref x :: st) w = ab_Run ab_mt 95 42 ls (.ref x :: .ref x :: st) w := E_dup_r rfl
theorem e_95_42 {ls : ab_L} {st : List Value} {w : ab_W} {a : Nat} (h : ab_isF 5 1 (w.2 a) = true) : ab_Run ab_mt 95 42 ls (.ref a :: st) w = ab_Run ab_mt 95 45 ls (ab_fv 1 (w.2 a) :: st) w := E_get rfl h
theorem e_95_45 {ls : ab_L} {st : List Value} {w : ab_W} : ab_Run ab_mt 95 45 ls st w = ab_Run ab_mt 95 46 ls (.int (nI 1) :: st) w := E_push (n := 1) rfl
theorem e_95_46 {ls : ab_L} {st : List Value} {w : ab_W} {x y : Int32} : ab_Run ab_mt 95 46 ls (.int y :: .int x :: st) w = ab_Run ab_mt 95 47 ls (.int (x + y) :: st) w := E_ib (f := fun x y => x + y) rfl
theorem e_95_47 {ls : ab_L} {st : List Value} {w : ab_W} {a : Nat} {x : Int32} (h : ab_isF 5 1 (w.2 a) = true) : ab_Run ab_mt 95 47 ls (.int x :: .ref a :: st) w = ab_Run ab_mt 95 50 ls st (w.1, ab_up w.2 a (ab_sf 1 (.int x) (w.2 a))) := E_put rfl h rfl
theorem e_95_50 {ls : ab_L} {w : ab_W} : ab_Run ab_mt 95 50 ls [] w = some (.inl none, w) := E_ret0 rfl
theorem rv_95 {σ : ab_S} {t : Nat} {x0 : Nat} : ab_recv ab_mt 95 [.ref t, .ref x0] σ = ab_isO 5 (σ t) := rfl
theorem e_96_0 {ls : ab_L} {st : List Value} {w : ab_W} (h : ab_isR (ls 0) = true) : ab_Run ab_mt 96 0 ls st w = ab_Run ab_mt 96 1 ls (ab_gv (ls 0) :: st) w := E_loadr (n := 1) rfl h
theorem e_96_1 {ls : ab_L} {st : List Value} {w : ab_W} {a : Nat} (h : ab_isF 5 0 (w.2 a) = true) : ab_Run ab_mt 96 1 ls (.ref a :: st) w = ab_Run ab_mt 96 4 ls (ab_fv 0 (w.2 a) :: st) w := E_get rfl h
theorem e_96_4 {ls : ab_L} {st : List Value} {w : ab_W} : ab_Run ab_mt 96 4 ls st w = ab_Run ab_mt 96 5 ls (.int (nI 0) :: st) w := E_push (n := 1) rfl
theorem e_96_5 {ls : ab_L} {st : List Value} {w : ab_W} {a : Nat} {i : Int32} (h : ab_inQ i (w.2 a) = true) : ab_Run ab_mt 96 5 ls (.int i :: .ref a :: st) w = ab_Run ab_mt 96 6 ls (.ref (ab_aQ i.toNatClampNeg (w.2 a)) :: st) w := E_aald rfl h
theorem e_96_6 {ls : ab_L} {st : List Value} {w : ab_W} {x : Nat} : ab_Run ab_mt 96 6 ls (.ref x :: st) w = ab_Run ab_mt 96 7 (ab_l1 ls 1 (.ref x)) st w := E_storr (n := 1) rfl
theorem e_96_7 {ls : ab_L} {st : List Value} {w : ab_W} : ab_Run ab_mt 96 7 ls st w = ab_Run ab_mt 96 8 ls (.int (nI 1) :: st) w := E_push (n := 1) rfl
theorem e_96_8 {ls : ab_L} {st : List Value} {w : ab_W} {x : Int32} : ab_Run ab_mt 96 8 ls (.int x :: st) w = ab_Run ab_mt 96 9 (ab_l1 ls 2 (.int x)) st w := E_stori (n := 1) rfl
theorem e_96_9 {ls : ab_L} {st : List Value} {w : ab_W} (h : ab_isI (ls 2) = true) : ab_Run ab_mt 96 9 ls st w = ab_Run ab_mt 96 10 ls (ab_gv (ls 2) :: st) w := E_loadi (n := 1) rfl h
theorem e_96_10 {ls : ab_L} {st : List Value} {w : ab_W} (h : ab_isR (ls 0) = true) : ab_Run ab_mt 96 10 ls st w = ab_Run ab_mt 96 11 ls (ab_gv (ls 0) :: st) w := E_loadr (n := 1) rfl h
theorem e_96_11 {ls : ab_L} {st : List Value} {w : ab_W} {a : Nat} (h : ab_isF 5 0 (w.2 a) = true) : ab_Run ab_mt 96 11 ls (.ref a :: st) w = ab_Run ab_mt 96 14 ls (ab_fv 0 (w.2 a) :: st) w := E_get rfl h
theorem e_96_14 {ls : ab_L} {st : List Value} {w : ab_W} {a : Nat} (h : ab_isA (w.2 a) = true) : ab_Run ab_mt 96 14 ls (.ref a :: st) w = ab_Run ab_mt 96 15 ls (.int (nI (ab_ln (w.2 a))) :: st) w := E_alen rfl h
theorem e_96_15 {ls : ab_L} {st : List Value} {w : ab_W} {x y : Int32} : ab_Run ab_mt 96 15 ls (.int y :: .int x :: st) w = if y ≤ x then ab_Run ab_mt 96 38 ls st w else ab_Run ab_mt 96 18 ls st w := E_ic_ge rfl
theorem e_96_18 {ls : ab_L} {st : List Value} {w : ab_W} (h : ab_isR (ls 0) = true) : ab_Run ab_mt 96 18 ls st w = ab_Run ab_mt 96 19 ls (ab_gv (ls 0) :: st) w := E_loadr (n := 1) rfl h
theorem e_96_19 {ls : ab_L} {st : List Value} {w : ab_W} {a : Nat} (h : ab_isF 5 0 (w.2 a) = true) : ab_Run ab_mt 96 19 ls (.ref a :: st) w = ab_Run ab_mt 96 22 ls (ab_fv 0 (w.2 a) :: st) w := E_get rfl h
theorem e_96_22 {ls : ab_L} {st : List Value} {w : ab_W} (h : ab_isI (ls 2) = true) : ab_Run ab_mt 96 22 ls st w = ab_Run ab_mt 96 23 ls (ab_gv (ls 2) :: st) w := E_loadi (n := 1) rfl h
theorem e_96_23 {ls : ab_L} {st : List Value} {w : ab_W} : ab_Run ab_mt 96 23 ls st w = ab_Run ab_mt 96 24 ls (.int (nI 1) :: st) w := E_push (n := 1) rfl
theorem e_96_24 {ls : ab_L} {st : List Value} {w : ab_W} {x y : Int32} : ab_Run ab_mt 96 24 ls (.int y :: .int x :: st) w = ab_Run ab_mt 96 25 ls (.int (x - y) :: st) w := E_ib (f := fun x y => x - y) rfl
theorem e_96_25 {ls : ab_L} {st : List Value} {w : ab_W} (h : ab_isR (ls 0) = true) : ab_Run ab_mt 96 25 ls st w = ab_Run ab_mt 96 26 ls (ab_gv (ls 0) :: st) w := E_loadr (n := 1) rfl h
theorem e_96_26 {ls : ab_L} {st : List Value} {w : ab_W} {a : Nat} (h : ab_isF 5 0 (w.2 a) = true) : ab_Run ab_mt 96 26 ls (.ref a :: st) w = ab_Run ab_mt 96 29 ls (ab_fv 0 (w.2 a) :: st) w := E_get rfl h
theorem e_96_29 {ls : ab_L} {st : List Value} {w : ab_W} (h : ab_isI (ls 2) = true) : ab_Run ab_mt 96 29 ls st w = ab_Run ab_mt 96 30 ls (ab_gv (ls 2) :: st) w := E_loadi (n := 1) rfl h
theorem e_96_30 {ls : ab_L} {st : List Value} {w : ab_W} {a : Nat} {i : Int32} (h : ab_inQ i (w.2 a) = true) : ab_Run ab_mt 96 30 ls (.int i :: .ref a :: st) w = ab_Run ab_mt 96 31 ls (.ref (ab_aQ i.toNatClampNeg (w.2 a)) :: st) w := E_aald rfl h
theorem e_96_31 {ls : ab_L} {st : List Value} {w : ab_W} {a x : Nat} {i : Int32} (h : ab_inP i (w.2 a) = true) (h2 : ab_isO 2 (w.2 x) = true) : ab_Run ab_mt 96 31 ls (.ref x :: .int i :: .ref a :: st) w = ab_Run ab_mt 96 32 ls st (w.1, ab_up w.2 a (ab_sQ i.toNatClampNeg x (w.2 a))) := E_aast rfl h h2
theorem e_96_32 {ls : ab_L} {st : List Value} {w : ab_W} (h : ab_isI (ls 2) = true) : ab_Run ab_mt 96 32 ls st w = ab_Run ab_mt 96 35 (ab_l1 ls 2 (.int (ab_gi (ls 2) + (nI 1)))) st w := E_iinc rfl h
theorem e_96_35 {ls : ab_L} {st : List Value} {w : ab_W} : ab_Run ab_mt 96 35 ls st w = ab_Run ab_mt 96 9 ls st w := E_goto rfl
theorem e_96_38 {ls : ab_L} {st : List Value} {w : ab_W} (h : ab_isR (ls 0) = true) : ab_Run ab_mt 96 38 ls st w = ab_Run ab_mt 96 39 ls (ab_gv (ls 0) :: st) w := E_loadr (n := 1) rfl h
theorem e_96_39 {ls : ab_L} {st : List Value} {w : ab_W} {a : Nat} (h : ab_isF 5 0 (w.2 a) = true) : ab_Run ab_mt 96 39 ls (.ref a :: st) w = ab_Run ab_mt 96 42 ls (ab_fv 0 (w.2 a) :: st) w := E_get rfl h
theorem e_96_42 {ls : ab_L} {st : List Value} {w : ab_W} (h : ab_isR (ls 0) = true) : ab_Run ab_mt 96 42 ls st w = ab_Run ab_mt 96 43 ls (ab_gv (ls 0) :: st) w := E_loadr (n := 1) rfl h
theorem e_96_43 {ls : ab_L} {st : List Value} {w : ab_W} {a : Nat} (h : ab_isF 5 0 (w.2 a) = true) : ab_Run ab_mt 96 43 ls (.ref a :: st) w = ab_Run ab_mt 96 46 ls (ab_fv 0 (w.2 a) :: st) w := E_get rfl h
theorem e_96_46 {ls : ab_L} {st : List Value} {w : ab_W} {a : Nat} (h : ab_isA (w.2 a) = true) : ab_Run ab_mt 96 46 ls (.ref a :: st) w = ab_Run ab_mt 96 47 ls (.int (nI (ab_ln (w.2 a))) :: st) w := E_alen rfl h
theorem e_96_47 {ls : ab_L} {st : List Value} {w : ab_W} : ab_Run ab_mt 96 47 ls st w = ab_Run ab_mt 96 48 ls (.int (nI 1) :: st) w := E_push (n := 1) rfl
theorem e_96_48 {ls : ab_L} {st : List Value} {w : ab_W} {x y : Int32} : ab_Run ab_mt 96 48 ls (.int y :: .int x :: st) w = ab_Run ab_mt 96 49 ls (.int (x - y) :: st) w := E_ib (f := fun x y => x - y) rfl
theorem e_96_49 {ls : ab_L} {st : List Value} {w : ab_W} (h : ab_isR (ls 1) = true) : ab_Run ab_mt 96 49 ls st w = ab_Run ab_mt 96 50 ls (ab_gv (ls 1) :: st) w := E_loadr (n := 1) rfl h
theorem e_96_50 {ls : ab_L} {st : List Value} {w : ab_W} {a x : Nat} {i : Int32} (h : ab_inP i (w.2 a) = true) (h2 : ab_isO 2 (w.2 x) = true) : ab_Run ab_mt 96 50 ls (.ref x :: .int i :: .ref a :: st) w = ab_Run ab_mt 96 51 ls st (w.1, ab_up w.2 a (ab_sQ i.toNatClampNeg x (w.2 a))) := E_aast rfl h h2
theorem e_96_51 {ls : ab_L} {w : ab_W} : ab_Run ab_mt 96 51 ls [] w = some (.inl none, w) := E_ret0 rfl
theorem rv_96 {σ : ab_S} {t : Nat} : ab_recv ab_mt 96 [.ref t] σ = ab_isO 5 (σ t) := rfl
theorem e_97_0 {ls : ab_L} {st : List Value} {w : ab_W} (h : ab_isR (ls 0) = true) : ab_Run ab_mt 97 0 ls st w = ab_Run ab_mt 97 1 ls (ab_gv (ls 0) :: st) w := E_loadr (n := 1) rfl h
theorem e_97_1 {ls : ab_L} {st : List Value} {w : ab_W} {a : Nat} (h : ab_isF 5 1 (w.2 a) = true) : ab_Run ab_mt 97 1 ls (.ref a :: st) w = ab_Run ab_mt 97 4 ls (ab_fv 1 (w.2 a) :: st) w := E_get rfl h
theorem e_97_4 {ls : ab_L} {st : List Value} {w : ab_W} {x : Int32} : ab_Run ab_mt 97 4 ls (.int x :: st) w = if x ≤ 0 then ab_Run ab_mt 97 42 ls st w else ab_Run ab_mt 97 7 ls st w := E_if_le rfl
theorem e_97_7 {ls : ab_L} {st : List Value} {w : ab_W} (h : ab_isR (ls 0) = true) : ab_Run ab_mt 97 7 ls st w = ab_Run ab_mt 97 8 ls (ab_gv (ls 0) :: st) w := E_loadr (n := 1) rfl h
theorem e_97_8 {ls : ab_L} {st : List Value} {w : ab_W} {a : Nat} (h : ab_isF 5 1 (w.2 a) = true) : ab_Run ab_mt 97 8 ls (.ref a :: st) w = ab_Run ab_mt 97 11 ls (ab_fv 1 (w.2 a) :: st) w := E_get rfl h
theorem e_97_11 {ls : ab_L} {st : List Value} {w : ab_W} (h : ab_isR (ls 0) = true) : ab_Run ab_mt 97 11 ls st w = ab_Run ab_mt 97 12 ls (ab_gv (ls 0) :: st) w := E_loadr (n := 1) rfl h
theorem e_97_12 {ls : ab_L} {st : List Value} {w : ab_W} {a : Nat} (h : ab_isF 5 0 (w.2 a) = true) : ab_Run ab_mt 97 12 ls (.ref a :: st) w = ab_Run ab_mt 97 15 ls (ab_fv 0 (w.2 a) :: st) w := E_get rfl h
theorem e_97_15 {ls : ab_L} {st : List Value} {w : ab_W} {a : Nat} (h : ab_isA (w.2 a) = true) : ab_Run ab_mt 97 15 ls (.ref a :: st) w = ab_Run ab_mt 97 16 ls (.int (nI (ab_ln (w.2 a))) :: st) w := E_alen rfl h
theorem e_97_16 {ls : ab_L} {st : List Value} {w : ab_W} {x y : Int32} : ab_Run ab_mt 97 16 ls (.int y :: .int x :: st) w = if y < x then ab_Run ab_mt 97 42 ls st w else ab_Run ab_mt 97 19 ls st w := E_ic_gt rfl
theorem e_97_19 {ls : ab_L} {st : List Value} {w : ab_W} (h : ab_isR (ls 0) = true) : ab_Run ab_mt 97 19 ls st w = ab_Run ab_mt 97 20 ls (ab_gv (ls 0) :: st) w := E_loadr (n := 1) rfl h
theorem e_97_20 {ls : ab_L} {st : List Value} {w : ab_W} {x : Nat} : ab_Run ab_mt 97 20 ls (.ref x :: st) w = ab_Run ab_mt 97 21 ls (.ref x :: .ref x :: st) w := E_dup_r rfl
theorem e_97_21 {ls : ab_L} {st : List Value} {w : ab_W} {a : Nat} (h : ab_isF 5 1 (w.2 a) = true) : ab_Run ab_mt 97 21 ls (.ref a :: st) w = ab_Run ab_mt 97 24 ls (ab_fv 1 (w.2 a) :: st) w := E_get rfl h
theorem e_97_24 {ls : ab_L} {st : List Value} {w : ab_W} : ab_Run ab_mt 97 24 ls st w = ab_Run ab_mt 97 25 ls (.int (nI 1) :: st) w := E_push (n := 1) rfl
theorem e_97_25 {ls : ab_L} {st : List Value} {w : ab_W} {x y : Int32} : ab_Run ab_mt 97 25 ls (.int y :: .int x :: st) w = ab_Run ab_mt 97 26 ls (.int (x - y) :: st) w := E_ib (f := fun x y => x - y) rfl
theorem e_97_26 {ls : ab_L} {st : List Value} {w : ab_W} {a : Nat} {x : Int32} (h : ab_isF 5 1 (w.2 a) = true) : ab_Run ab_mt 97 26 ls (.int x :: .ref a :: st) w = ab_Run ab_mt 97 29 ls st (w.1, ab_up w.2 a (ab_sf 1 (.int x) (w.2 a))) := E_put rfl h rfl
theorem e_97_29 {ls : ab_L} {st : List Value} {w : ab_W} (h : ab_isR (ls 1) = true) : ab_Run ab_mt 97 29 ls st w = ab_Run ab_mt 97 30 ls (ab_gv (ls 1) :: st) w := E_loadr (n := 1) rfl h
theorem e_97_30 {ls : ab_L} {st : List Value} {w : ab_W} (h : ab_isR (ls 0) = true) : ab_Run ab_mt 97 30 ls st w = ab_Run ab_mt 97 31 ls (ab_gv (ls 0) :: st) w := E_loadr (n := 1) rfl h
theorem e_97_31 {ls : ab_L} {st : List Value} {w : ab_W} {a : Nat} (h : ab_isF 5 0 (w.2 a) = true) : ab_Run ab_mt 97 31 ls (.ref a :: st) w = ab_Run ab_mt 97 34 ls (ab_fv 0 (w.2 a) :: st) w := E_get rfl h
theorem e_97_34 {ls : ab_L} {st : List Value} {w : ab_W} (h : ab_isR (ls 0) = true) : ab_Run ab_mt 97 34 ls st w = ab_Run ab_mt 97 35 ls (ab_gv (ls 0) :: st) w := E_loadr (n := 1) rfl h
theorem e_97_35 {ls : ab_L} {st : List Value} {w : ab_W} {a : Nat} (h : ab_isF 5 1 (w.2 a) = true) : ab_Run ab_mt 97 35 ls (.ref a :: st) w = ab_Run ab_mt 97 38 ls (ab_fv 1 (w.2 a) :: st) w := E_get rfl h
theorem e_97_38 {ls : ab_L} {st : List Value} {w : ab_W} {a : Nat} {i : Int32} (h : ab_inQ i (w.2 a) = true) : ab_Run ab_mt 97 38 ls (.int i :: .ref a :: st) w = ab_Run ab_mt 97 39 ls (.ref (ab_aQ i.toNatClampNeg (w.2 a)) :: st) w := E_aald rfl h
theorem e_97_39 {ls : ab_L} {st : List Value} {w : ab_W} {v0 v1 : Value} (h1 : ab_recv ab_mt 73 [v0, v1] w.2 = true) (h8 : ab_w8 st = true) : ab_Run ab_mt 97 39 ls (v1 :: v0 :: st) w = ab_aft 73 97 39 ls st (ab_Cl 73 [v0, v1] w) := E_call2 rfl h1 h8
theorem e_97_42 {ls : ab_L} {w : ab_W} : ab_Run ab_mt 97 42 ls [] w = some (.inl none, w) := E_ret0 rfl
theorem rv_97 {σ : ab_S} {t : Nat} {x0 : Nat} : ab_recv ab_mt 97 [.ref t, .ref x0] σ = ab_isO 5 (σ t) := rfl
theorem e_98_0 {ls : ab_L} {st : List Value} {w : ab_W} (h : ab_isR (ls 0) = true) : ab_Run ab_mt 98 0 ls st w = ab_Run ab_mt 98 1 ls (ab_gv (ls 0) :: st) w := E_loadr (n := 1) rfl h
theorem e_98_1 {ls : ab_L} {st : List Value} {w : ab_W} {a : Nat} (h8 : ab_w8 st = true) : ab_Run ab_mt 98 1 ls (.ref a :: st) w = ab_Run ab_mt 98 4 ls st w := E_oini rfl h8
theorem e_98_4 {ls : ab_L} {st : List Value} {w : ab_W} (h : ab_isR (ls 0) = true) : ab_Run ab_mt 98 4 ls st w = ab_Run ab_mt 98 5 ls (ab_gv (ls 0) :: st) w := E_loadr (n := 1) rfl h
theorem e_98_5 {ls : ab_L} {st : List Value} {w : ab_W} (h : w.1.1 = true) : ab_Run ab_mt 98 5 ls st w = ab_Run ab_mt 98 8 ls (.ref w.1.2.1 :: st) (ab_mk w.1 w.2 (ab_ob 3 [.int 0, .int 0, .null, .int 0]) 4) := E_new (n := 3) (x := ab_ob 3 [.int 0, .int 0, .null, .int 0]) (sz := 4) (rest := st) rfl rfl h
theorem e_98_8 {ls : ab_L} {st : List Value} {w : ab_W} {x : Nat} : ab_Run ab_mt 98 8 ls (.ref x :: st) w = ab_Run ab_mt 98 9 ls (.ref x :: .ref x :: st) w := E_dup_r rfl
theorem e_98_9 {ls : ab_L} {st : List Value} {w : ab_W} : ab_Run ab_mt 98 9 ls st w = ab_Run ab_mt 98 11 ls (.int (nI 31) :: st) w := E_push (n := 2) rfl
theorem e_98_11 {ls : ab_L} {st : List Value} {w : ab_W} : ab_Run ab_mt 98 11 ls st w = ab_Run ab_mt 98 12 ls (.int (nI 5) :: st) w := E_push (n := 1) rfl
theorem e_98_12 {ls : ab_L} {st : List Value} {w : ab_W} {v0 v1 v2 : Value} (h1 : ab_recv ab_mt 74 [v0, v1, v2] w.2 = true) (h8 : ab_w8 st = true) : ab_Run ab_mt 98 12 ls (v2 :: v1 :: v0 :: st) w = ab_aft 74 98 12 ls st (ab_Cl 74 [v0, v1, v2] w) := E_call3 rfl h1 h8
theorem e_98_15 {ls : ab_L} {st : List Value} {w : ab_W} {a : Nat} {x : Nat} (h : ab_isF 6 0 (w.2 a) = true) : ab_Run ab_mt 98 15 ls (.ref x :: .ref a :: st) w = ab_Run ab_mt 98 18 ls st (w.1, ab_up w.2 a (ab_sf 0 (.ref x) (w.2 a))) := E_put rfl h rfl
theorem e_98_18 {ls : ab_L} {w : ab_W} : ab_Run ab_mt 98 18 ls [] w = some (.inl none, w) := E_ret0 rfl
theorem rv_98 {σ : ab_S} {t : Nat} : ab_recv ab_mt 98 [.ref t] σ = ab_isO 6 (σ t) := rfl
theorem e_99_0 {ls : ab_L} {st : List Value} {w : ab_W} (h : ab_isR (ls 0) = true) : ab_Run ab_mt 99 0 ls st w = ab_Run ab_mt 99 1 ls (ab_gv (ls 0) :: st) w := E_loadr (n := 1) rfl h
theorem e_99_1 {ls : ab_L} {st : List Value} {w : ab_W} {a : Nat} (h : ab_isF 6 0 (w.2 a) = true) : ab_Run ab_mt 99 1 ls (.ref a :: st) w = ab_Run ab_mt 99 4 ls (ab_fv 0 (w.2 a) :: st) w := E_get rfl h
theorem e_99_4 {ls : ab_L} {st : List Value} {w : ab_W} : ab_Run ab_mt 99 4 ls st w = ab_Run ab_mt 99 5 ls (.int (nI 0) :: st) w := E_push (n := 1) rfl
theorem e_99_5 {ls : ab_L} {st : List Value} {w : ab_W} {a : Nat} {x : Int32} (h : ab_isF 3 3 (w.2 a) = true) : ab_Run ab_mt 99 5 ls (.int x :: .ref a :: st) w = ab_Run ab_mt 99 8 ls st (w.1, ab_up w.2 a (ab_sf 3 (.int x) (w.2 a))) := E_put rfl h rfl
theorem e_99_8 {ls : ab_L} {st : List Value} {w : ab_W} (h : ab_isR (ls 0) = true) : ab_Run ab_mt 99 8 ls st w = ab_Run ab_mt 99 9 ls (ab_gv (ls 0) :: st) w := E_loadr (n := 1) rfl h
theorem e_99_9 {ls : ab_L} {st : List Value} {w : ab_W} {v0 : Value} (h1 : ab_recv ab_mt 100 [v0] w.2 = true) (h8 : ab_w8 st = true) : ab_Run ab_mt 99 9 ls (v0 :: st) w = ab_aft 100 99 9 ls st (ab_Cl 100 [v0] w) := E_call1 rfl h1 h8
theorem e_99_12 {ls : ab_L} {st : List Value} {w : ab_W} (h : ab_isR (ls 0) = true) : ab_Run ab_mt 99 12 ls st w = ab_Run ab_mt 99 13 ls (ab_gv (ls 0) :: st) w := E_loadr (n := 1) rfl h
theorem e_99_13 {ls : ab_L} {st : List Value} {w : ab_W} : ab_Run ab_mt 99 13 ls st w = ab_Run ab_mt 99 14 ls (.int (nI 0) :: st) w := E_push (n := 1) rfl
theorem e_99_14 {ls : ab_L} {st : List Value} {w : ab_W} {a : Nat} {x : Int32} (h : ab_isF 6 1 (w.2 a) = true) : ab_Run ab_mt 99 14 ls (.int x :: .ref a :: st) w = ab_Run ab_mt 99 17 ls st (w.1, ab_up w.2 a (ab_sf 1 (.int x) (w.2 a))) := E_put rfl h rfl
theorem e_99_17 {ls : ab_L} {st : List Value} {w : ab_W} (h : ab_isR (ls 0) = true) : ab_Run ab_mt 99 17 ls st w = ab_Run ab_mt 99 18 ls (ab_gv (ls 0) :: st) w := E_loadr (n := 1) rfl h
theorem e_99_18 {ls : ab_L} {st : List Value} {w : ab_W} {a : Nat} (h : ab_isF 6 1 (w.2 a) = true) : ab_Run ab_mt 99 18 ls (.ref a :: st) w = ab_Run ab_mt 99 21 ls (ab_fv 1 (w.2 a) :: st) w := E_get rfl h
theorem e_99_21 {ls : ab_L} {st : List Value} {w : ab_W} (h : ab_isI (ls 2) = true) : ab_Run ab_mt 99 21 ls st w = ab_Run ab_mt 99 22 ls (ab_gv (ls 2) :: st) w := E_loadi (n := 1) rfl h
theorem e_99_22 {ls : ab_L} {st : List Value} {w : ab_W} {x y : Int32} : ab_Run ab_mt 99 22 ls (.int y :: .int x :: st) w = if y ≤ x then ab_Run ab_mt 99 60 ls st w else ab_Run ab_mt 99 25 ls st w := E_ic_ge rfl
theorem e_99_25 {ls : ab_L} {st : List Value} {w : ab_W} (h : ab_isR (ls 0) = true) : ab_Run ab_mt 99 25 ls st w = ab_Run ab_mt 99 26 ls (ab_gv (ls 0) :: st) w := E_loadr (n := 1) rfl h
theorem e_99_26 {ls : ab_L} {st : List Value} {w : ab_W} {a : Nat} (h : ab_isF 6 1 (w.2 a) = true) : ab_Run ab_mt 99 26 ls (.ref a :: st) w = ab_Run ab_mt 99 29 ls (ab_fv 1 (w.2 a) :: st) w := E_get rfl h
theorem e_99_29 {ls : ab_L} {st : List Value} {w : ab_W} (h : ab_isR (ls 1) = true) : ab_Run ab_mt 99 29 ls st w = ab_Run ab_mt 99 30 ls (ab_gv (ls 1) :: st) w := E_loadr (n := 1) rfl h
theorem e_99_30 {ls : ab_L} {st : List Value} {w : ab_W} {a : Nat} (h : ab_isA (w.2 a) = true) : ab_Run ab_mt 99 30 ls (.ref a :: st) w = ab_Run ab_mt 99 31 ls (.int (nI (ab_ln (w.2 a))) :: st) w := E_alen rfl h
theorem e_99_31 {ls : ab_L} {st : List Value} {w : ab_W} {x y : Int32} : ab_Run ab_mt 99 31 ls (.int y :: .int x :: st) w = if y ≤ x then ab_Run ab_mt 99 60 ls st w else ab_Run ab_mt 99 34 ls st w := E_ic_ge rfl
theorem e_99_34 {ls : ab_L} {st : List Value} {w : ab_W} (h : ab_isR (ls 0) = true) : ab_Run ab_mt 99 34 ls st w = ab_Run ab_mt 99 35 ls (ab_gv (ls 0) :: st) w := E_loadr (n := 1) rfl h
theorem e_99_35 {ls : ab_L} {st : List Value} {w : ab_W} (h : ab_isR (ls 1) = true) : ab_Run ab_mt 99 35 ls st w = ab_Run ab_mt 99 36 ls (ab_gv (ls 1) :: st) w := E_loadr (n := 1) rfl h
theorem e_99_36 {ls : ab_L} {st : List Value} {w : ab_W} (h : ab_isR (ls 0) = true) : ab_Run ab_mt 99 36 ls st w = ab_Run ab_mt 99 37 ls (ab_gv (ls 0) :: st) w := E_loadr (n := 1) rfl h
theorem e_99_37 {ls : ab_L} {st : List Value} {w : ab_W} {a : Nat} (h : ab_isF 6 1 (w.2 a) = true) : ab_Run ab_mt 99 37 ls (.ref a :: st) w = ab_Run ab_mt 99 40 ls (ab_fv 1 (w.2 a) :: st) w := E_get rfl h
theorem e_99_40 {ls : ab_L} {st : List Value} {w : ab_W} {a : Nat} {i : Int32} (h : ab_inI i (w.2 a) = true) : ab_Run ab_mt 99 40 ls (.int i :: .ref a :: st) w = ab_Run ab_mt 99 41 ls (.int (ab_aI i.toNatClampNeg (w.2 a)) :: st) w := E_iald rfl h
theorem e_99_41 {ls : ab_L} {st : List Value} {w : ab_W} {v0 v1 : Value} (h1 : ab_recv ab_mt 102 [v0, v1] w.2 = true) (h8 : ab_w8 st = true) : ab_Run ab_mt 99 41 ls (v1 :: v0 :: st) w = ab_aft 102 99 41 ls st (ab_Cl 102 [v0, v1] w) := E_call2 rfl h1 h8
theorem e_99_44 {ls : ab_L} {st : List Value} {w : ab_W} {x : Int32} : ab_Run ab_mt 99 44 ls (.int x :: st) w = if x = 0 then ab_Run ab_mt 99 60 ls st w else ab_Run ab_mt 99 47 ls st w := E_if_eq rfl
theorem e_99_47 {ls : ab_L} {st : List Value} {w : ab_W} (h : ab_isR (ls 0) = true) : ab_Run ab_mt 99 47 ls st w = ab_Run ab_mt 99 48 ls (ab_gv (ls 0) :: st) w := E_loadr (n := 1) rfl h
theorem e_99_48 {ls : ab_L} {st : List Value} {w : ab_W} {x : Nat} : ab_Run ab_mt 99 48 ls (.ref x :: st) w = ab_Run ab_mt 99 49 ls (.ref x :: .ref x :: st) w := E_dup_r rfl
theorem e_99_49 {ls : ab_L} {st : List Value} {w : ab_W} {a : Nat} (h : ab_isF 6 1 (w.2 a) = true) : ab_Run ab_mt 99 49 ls (.ref a :: st) w = ab_Run ab_mt 99 52 ls (ab_fv 1 (w.2 a) :: st) w := E_get rfl h
theorem e_99_52 {ls : ab_L} {st : List Value} {w : ab_W} : ab_Run ab_mt 99 52 ls st w = ab_Run ab_mt 99 53 ls (.int (nI 1) :: st) w := E_push (n := 1) rfl
theorem e_99_53 {ls : ab_L} {st : List Value} {w : ab_W} {x y : Int32} : ab_Run ab_mt 99 53 ls (.int y :: .int x :: st) w = ab_Run ab_mt 99 54 ls (.int (x + y) :: st) w := E_ib (f := fun x y => x + y) rfl
theorem e_99_54 {ls : ab_L} {st : List Value} {w : ab_W} {a : Nat} {x : Int32} (h : ab_isF 6 1 (w.2 a) = true) : ab_Run ab_mt 99 54 ls (.int x :: .ref a :: st) w = ab_Run ab_mt 99 57 ls st (w.1, ab_up w.2 a (ab_sf 1 (.int x) (w.2 a))) := E_put rfl h rfl
theorem e_99_57 {ls : ab_L} {st : List Value} {w : ab_W} : ab_Run ab_mt 99 57 ls st w = ab_Run ab_mt 99 17 ls st w := E_goto rfl
theorem e_99_60 {ls : ab_L} {st : List Value} {w : ab_W} (h : ab_isR (ls 0) = true) : ab_Run ab_mt 99 60 ls st w = ab_Run ab_mt 99 61 ls (ab_gv (ls 0) :: st) w := E_loadr (n := 1) rfl h
theorem e_99_61 {ls : ab_L} {st : List Value} {w : ab_W} (h : ab_isR (ls 0) = true) : ab_Run ab_mt 99 61 ls st w = ab_Run ab_mt 99 62 ls (ab_gv (ls 0) :: st) w := E_loadr (n := 1) rfl h
theorem e_99_62 {ls : ab_L} {st : List Value} {w : ab_W} {a : Nat} (h : ab_isF 6 1 (w.2 a) = true) : ab_Run ab_mt 99 62 ls (.ref a :: st) w = ab_Run ab_mt 99 65 ls (ab_fv 1 (w.2 a) :: st) w := E_get rfl h
theorem e_99_65 {ls : ab_L} {st : List Value} {w : ab_W} (h : ab_isI (ls 2) = true) : ab_Run ab_mt 99 65 ls st w = ab_Run ab_mt 99 66 ls (ab_gv (ls 2) :: st) w := E_loadi (n := 1) rfl h
theorem e_99_66 {ls : ab_L} {st : List Value} {w : ab_W} {x y : Int32} : ab_Run ab_mt 99 66 ls (.int y :: .int x :: st) w = if x = y then ab_Run ab_mt 99 69 ls st w else ab_Run ab_mt 99 80 ls st w := E_ic_ne rfl
theorem e_99_69 {ls : ab_L} {st : List Value} {w : ab_W} (h : ab_isR (ls 0) = true) : ab_Run ab_mt 99 69 ls st w = ab_Run ab_mt 99 70 ls (ab_gv (ls 0) :: st) w := E_loadr (n := 1) rfl h
theorem e_99_70 {ls : ab_L} {st : List Value} {w : ab_W} {v0 : Value} (h1 : ab_recv ab_mt 101 [v0] w.2 = true) (h8 : ab_w8 st = true) : ab_Run ab_mt 99 70 ls (v0 :: st) w = ab_aft 101 99 70 ls st (ab_Cl 101 [v0] w) := E_call1 rfl h1 h8
theorem e_99_73 {ls : ab_L} {st : List Value} {w : ab_W} {x : Int32} : ab_Run ab_mt 99 73 ls (.int x :: st) w = if x = 0 then ab_Run ab_mt 99 80 ls st w else ab_Run ab_mt 99 76 ls st w := E_if_eq rfl
theorem e_99_76 {ls : ab_L} {st : List Value} {w : ab_W} : ab_Run ab_mt 99 76 ls st w = ab_Run ab_mt 99 77 ls (.int (nI 1) :: st) w := E_push (n := 1) rfl
theorem e_99_77 {ls : ab_L} {st : List Value} {w : ab_W} : ab_Run ab_mt 99 77 ls st w = ab_Run ab_mt 99 81 ls st w := E_goto rfl
theorem e_99_80 {ls : ab_L} {st : List Value} {w : ab_W} : ab_Run ab_mt 99 80 ls st w = ab_Run ab_mt 99 81 ls (.int (nI 0) :: st) w := E_push (n := 1) rfl
theorem e_99_81 {ls : ab_L} {st : List Value} {w : ab_W} {a : Nat} {x : Int32} (h : ab_isF 6 2 (w.2 a) = true) (h2 : ab_fit 2 (.int x) = true) : ab_Run ab_mt 99 81 ls (.int x :: .ref a :: st) w = ab_Run ab_mt 99 84 ls st (w.1, ab_up w.2 a (ab_sf 2 (.int x) (w.2 a))) := E_put rfl h h2
theorem e_99_84 {ls : ab_L} {w : ab_W} : ab_Run ab_mt 99 84 ls [] w = some (.inl none, w) := E_ret0 rfl
theorem rv_99 {σ : ab_S} {t : Nat} {x0 : Nat} {x1 : Int32} : ab_recv ab_mt 99 [.ref t, .ref x0, .int x1] σ = ab_isO 6 (σ t) := rfl
theorem e_100_0 {ls : ab_L} {st : List Value} {w : ab_W} (h : ab_isR (ls 0) = true) : ab_Run ab_mt 100 0 ls st w = ab_Run ab_mt 100 1 ls (ab_gv (ls 0) :: st) w := E_loadr (n := 1) rfl h
theorem e_100_1 {ls : ab_L} {st : List Value} {w : ab_W} {a : Nat} (h : ab_isF 6 0 (w.2 a) = true) : ab_Run ab_mt 100 1 ls (.ref a :: st) w = ab_Run ab_mt 100 4 ls (ab_fv 0 (w.2 a) :: st) w := E_get rfl h
theorem e_100_4 {ls : ab_L} {st : List Value} {w : ab_W} : ab_Run ab_mt 100 4 ls st w = ab_Run ab_mt 100 5 ls (.int (nI 0) :: st) w := E_push (n := 1) rfl
theorem e_100_5 {ls : ab_L} {st : List Value} {w : ab_W} : ab_Run ab_mt 100 5 ls st w = ab_Run ab_mt 100 6 ls (.int (nI 1) :: st) w := E_push (n := 1) rfl
theorem e_100_6 {ls : ab_L} {st : List Value} {w : ab_W} {v0 v1 v2 : Value} (h1 : ab_recv ab_mt 39 [v0, v1, v2] w.2 = true) (h8 : ab_w8 st = true) : ab_Run ab_mt 100 6 ls (v2 :: v1 :: v0 :: st) w = ab_aft 39 100 6 ls st (ab_Cl 39 [v0, v1, v2] w) := E_call3 rfl h1 h8
theorem e_100_9 {ls : ab_L} {st : List Value} {w : ab_W} (h : ab_isR (ls 0) = true) : ab_Run ab_mt 100 9 ls st w = ab_Run ab_mt 100 10 ls (ab_gv (ls 0) :: st) w := E_loadr (n := 1) rfl h
theorem e_100_10 {ls : ab_L} {st : List Value} {w : ab_W} : ab_Run ab_mt 100 10 ls st w = ab_Run ab_mt 100 11 ls (.int (nI 0) :: st) w := E_push (n := 1) rfl
theorem e_100_11 {ls : ab_L} {st : List Value} {w : ab_W} {a : Nat} {x : Int32} (h : ab_isF 6 3 (w.2 a) = true) : ab_Run ab_mt 100 11 ls (.int x :: .ref a :: st) w = ab_Run ab_mt 100 14 ls st (w.1, ab_up w.2 a (ab_sf 3 (.int x) (w.2 a))) := E_put rfl h rfl
theorem e_100_14 {ls : ab_L} {st : List Value} {w : ab_W} (h : ab_isR (ls 0) = true) : ab_Run ab_mt 100 14 ls st w = ab_Run ab_mt 100 15 ls (ab_gv (ls 0) :: st) w := E_loadr (n := 1) rfl h
theorem e_100_15 {ls : ab_L} {st : List Value} {w : ab_W} : ab_Run ab_mt 100 15 ls st w = ab_Run ab_mt 100 16 ls (.int (nI 0) :: st) w := E_push (n := 1) rfl
theorem e_100_16 {ls : ab_L} {st : List Value} {w : ab_W} {a : Nat} {x : Int32} (h : ab_isF 6 4 (w.2 a) = true) : ab_Run ab_mt 100 16 ls (.int x :: .ref a :: st) w = ab_Run ab_mt 100 19 ls st (w.1, ab_up w.2 a (ab_sf 4 (.int x) (w.2 a))) := E_put rfl h rfl
theorem e_100_19 {ls : ab_L} {w : ab_W} : ab_Run ab_mt 100 19 ls [] w = some (.inl none, w) := E_ret0 rfl
theorem rv_100 {σ : ab_S} {t : Nat} : ab_recv ab_mt 100 [.ref t] σ = ab_isO 6 (σ t) := rfl
theorem e_101_0 {ls : ab_L} {st : List Value} {w : ab_W} (h : ab_isR (ls 0) = true) : ab_Run ab_mt 101 0 ls st w = ab_Run ab_mt 101 1 ls (ab_gv (ls 0) :: st) w := E_loadr (n := 1) rfl h
theorem e_101_1 {ls : ab_L} {st : List Value} {w : ab_W} {a : Nat} (h : ab_isF 6 4 (w.2 a) = true) : ab_Run ab_mt 101 1 ls (.ref a :: st) w = ab_Run ab_mt 101 4 ls (ab_fv 4 (w.2 a) :: st) w := E_get rfl h
theorem e_101_4 {ls : ab_L} {st : List Value} {w : ab_W} : ab_Run ab_mt 101 4 ls st w = ab_Run ab_mt 101 7 ls (.ref 1 :: st) w := E_push (n := 3) rfl
theorem e_101_7 {ls : ab_L} {st : List Value} {w : ab_W} (h : ab_isR (ls 0) = true) : ab_Run ab_mt 101 7 ls st w = ab_Run ab_mt 101 8 ls (ab_gv (ls 0) :: st) w := E_loadr (n := 1) rfl h
theorem e_101_8 {ls : ab_L} {st : List Value} {w : ab_W} {a : Nat} (h : ab_isF 6 3 (w.2 a) = true) : ab_Run ab_mt 101 8 ls (.ref a :: st) w = ab_Run ab_mt 101 11 ls (ab_fv 3 (w.2 a) :: st) w := E_get rfl h
theorem e_101_11 {ls : ab_L} {st : List Value} {w : ab_W} {a : Nat} {i : Int32} (h : ab_inI i (w.2 a) = true) : ab_Run ab_mt 101 11 ls (.int i :: .ref a :: st) w = ab_Run ab_mt 101 12 ls (.int (ab_aI i.toNatClampNeg (w.2 a)) :: st) w := E_iald rfl h
theorem e_101_12 {ls : ab_L} {st : List Value} {w : ab_W} {x y : Int32} : ab_Run ab_mt 101 12 ls (.int y :: .int x :: st) w = if x < y then ab_Run ab_mt 101 19 ls st w else ab_Run ab_mt 101 15 ls st w := E_ic_lt rfl
theorem e_101_15 {ls : ab_L} {st : List Value} {w : ab_W} : ab_Run ab_mt 101 15 ls st w = ab_Run ab_mt 101 16 ls (.int (nI 1) :: st) w := E_push (n := 1) rfl
theorem e_101_16 {ls : ab_L} {st : List Value} {w : ab_W} : ab_Run ab_mt 101 16 ls st w = ab_Run ab_mt 101 20 ls st w := E_goto rfl
theorem e_101_19 {ls : ab_L} {st : List Value} {w : ab_W} : ab_Run ab_mt 101 19 ls st w = ab_Run ab_mt 101 20 ls (.int (nI 0) :: st) w := E_push (n := 1) rfl
theorem e_101_20 {ls : ab_L} {w : ab_W} {x : Int32} (h : ab_fitr 2 (.int x) = true) : ab_Run ab_mt 101 20 ls [.int x] w = some (.inl (some (.int x)), w) := E_retz rfl h
theorem rv_101 {σ : ab_S} {t : Nat} : ab_recv ab_mt 101 [.ref t] σ = ab_isO 6 (σ t) := rfl
theorem e_102_0 {ls : ab_L} {st : List Value} {w : ab_W} (h : ab_isI (ls 1) = true) : ab_Run ab_mt 102 0 ls st w = ab_Run ab_mt 102 1 ls (ab_gv (ls 1) :: st) w := E_loadi (n := 1) rfl h
theorem e_102_1 {ls : ab_L} {st : List Value} {w : ab_W} : ab_Run ab_mt 102 1 ls st w = ab_Run ab_mt 102 3 ls (.int (nI 48) :: st) w := E_push (n := 2) rfl
theorem e_102_3 {ls : ab_L} {st : List Value} {w : ab_W} {x y : Int32} : ab_Run ab_mt 102 3 ls (.int y :: .int x :: st) w = if x < y then ab_Run ab_mt 102 21 ls st w else ab_Run ab_mt 102 6 ls st w := E_ic_lt rfl
theorem e_102_6 {ls : ab_L} {st : List Value} {w : ab_W} (h : ab_isI (ls 1) = true) : ab_Run ab_mt 102 6 ls st w = ab_Run ab_mt 102 7 ls (ab_gv (ls 1) :: st) w := E_loadi (n := 1) rfl h
theorem e_102_7 {ls : ab_L} {st : List Value} {w : ab_W} : ab_Run ab_mt 102 7 ls st w = ab_Run ab_mt 102 9 ls (.int (nI 57) :: st) w := E_push (n := 2) rfl
theorem e_102_9 {ls : ab_L} {st : List Value} {w : ab_W} {x y : Int32} : ab_Run ab_mt 102 9 ls (.int y :: .int x :: st) w = if y < x then ab_Run ab_mt 102 21 ls st w else ab_Run ab_mt 102 12 ls st w := E_ic_gt rfl
theorem e_102_12 {ls : ab_L} {st : List Value} {w : ab_W} (h : ab_isR (ls 0) = true) : ab_Run ab_mt 102 12 ls st w = ab_Run ab_mt 102 13 ls (ab_gv (ls 0) :: st) w := E_loadr (n := 1) rfl h
theorem e_102_13 {ls : ab_L} {st : List Value} {w : ab_W} (h : ab_isI (ls 1) = true) : ab_Run ab_mt 102 13 ls st w = ab_Run ab_mt 102 14 ls (ab_gv (ls 1) :: st) w := E_loadi (n := 1) rfl h
theorem e_102_14 {ls : ab_L} {st : List Value} {w : ab_W} : ab_Run ab_mt 102 14 ls st w = ab_Run ab_mt 102 16 ls (.int (nI 48) :: st) w := E_push (n := 2) rfl
theorem e_102_16 {ls : ab_L} {st : List Value} {w : ab_W} {x y : Int32} : ab_Run ab_mt 102 16 ls (.int y :: .int x :: st) w = ab_Run ab_mt 102 17 ls (.int (x - y) :: st) w := E_ib (f := fun x y => x - y) rfl
theorem e_102_17 {ls : ab_L} {st : List Value} {w : ab_W} {v0 v1 : Value} (h1 : ab_recv ab_mt 103 [v0, v1] w.2 = true) (h8 : ab_w8 st = true) : ab_Run ab_mt 102 17 ls (v1 :: v0 :: st) w = ab_aft 103 102 17 ls st (ab_Cl 103 [v0, v1] w) := E_call2 rfl h1 h8
theorem e_102_20 {ls : ab_L} {w : ab_W} {x : Int32} (h : ab_fitr 2 (.int x) = true) : ab_Run ab_mt 102 20 ls [.int x] w = some (.inl (some (.int x)), w) := E_retz rfl h
theorem e_102_21 {ls : ab_L} {st : List Value} {w : ab_W} (h : ab_isR (ls 0) = true) : ab_Run ab_mt 102 21 ls st w = ab_Run ab_mt 102 22 ls (ab_gv (ls 0) :: st) w := E_loadr (n := 1) rfl h
theorem e_102_22 {ls : ab_L} {st : List Value} {w : ab_W} {v0 : Value} (h1 : ab_recv ab_mt 101 [v0] w.2 = true) (h8 : ab_w8 st = true) : ab_Run ab_mt 102 22 ls (v0 :: st) w = ab_aft 101 102 22 ls st (ab_Cl 101 [v0] w) := E_call1 rfl h1 h8
theorem e_102_25 {ls : ab_L} {st : List Value} {w : ab_W} {x : Int32} : ab_Run ab_mt 102 25 ls (.int x :: st) w = if x = 0 then ab_Run ab_mt 102 28 ls st w else ab_Run ab_mt 102 30 ls st w := E_if_ne rfl
theorem e_102_28 {ls : ab_L} {st : List Value} {w : ab_W} : ab_Run ab_mt 102 28 ls st w = ab_Run ab_mt 102 29 ls (.int (nI 0) :: st) w := E_push (n := 1) rfl
theorem e_102_29 {ls : ab_L} {w : ab_W} {x : Int32} (h : ab_fitr 2 (.int x) = true) : ab_Run ab_mt 102 29 ls [.int x] w = some (.inl (some (.int x)), w) := E_retz rfl h
theorem e_102_30 {ls : ab_L} {st : List Value} {w : ab_W} (h : ab_isI (ls 1) = true) : ab_Run ab_mt 102 30 ls st w = ab_Run ab_mt 102 31 ls (ab_gv (ls 1) :: st) w := E_loadi (n := 1) rfl h
theorem e_102_31 {ls : ab_L} {st : List Value} {w : ab_W} : ab_Run ab_mt 102 31 ls st w = ab_Run ab_mt 102 33 ls (.int (nI 59) :: st) w := E_push (n := 2) rfl
theorem e_102_33 {ls : ab_L} {st : List Value} {w : ab_W} {x y : Int32} : ab_Run ab_mt 102 33 ls (.int y :: .int x :: st) w = if x = y then ab_Run ab_mt 102 36 ls st w else ab_Run ab_mt 102 42 ls st w := E_ic_ne rfl
theorem e_102_36 {ls : ab_L} {st : List Value} {w : ab_W} (h : ab_isR (ls 0) = true) : ab_Run ab_mt 102 36 ls st w = ab_Run ab_mt 102 37 ls (ab_gv (ls 0) :: st) w := E_loadr (n := 1) rfl h
theorem e_102_37 {ls : ab_L} {st : List Value} {w : ab_W} {v0 : Value} (h1 : ab_recv ab_mt 100 [v0] w.2 = true) (h8 : ab_w8 st = true) : ab_Run ab_mt 102 37 ls (v0 :: st) w = ab_aft 100 102 37 ls st (ab_Cl 100 [v0] w) := E_call1 rfl h1 h8
theorem e_102_40 {ls : ab_L} {st : List Value} {w : ab_W} : ab_Run ab_mt 102 40 ls st w = ab_Run ab_mt 102 41 ls (.int (nI 1) :: st) w := E_push (n := 1) rfl
theorem e_102_41 {ls : ab_L} {w : ab_W} {x : Int32} (h : ab_fitr 2 (.int x) = true) : ab_Run ab_mt 102 41 ls [.int x] w = some (.inl (some (.int x)), w) := E_retz rfl h
theorem e_102_42 {ls : ab_L} {st : List Value} {w : ab_W} (h : ab_isR (ls 0) = true) : ab_Run ab_mt 102 42 ls st w = ab_Run ab_mt 102 43 ls (ab_gv (ls 0) :: st) w := E_loadr (n := 1) rfl h
theorem e_102_43 {ls : ab_L} {st : List Value} {w : ab_W} (h : ab_isI (ls 1) = true) : ab_Run ab_mt 102 43 ls st w = ab_Run ab_mt 102 44 ls (ab_gv (ls 1) :: st) w := E_loadi (n := 1) rfl h
theorem e_102_44 {ls : ab_L} {st : List Value} {w : ab_W} {v0 v1 : Value} (h1 : ab_recv ab_mt 104 [v0, v1] w.2 = true) (h8 : ab_w8 st = true) : ab_Run ab_mt 102 44 ls (v1 :: v0 :: st) w = ab_aft 104 102 44 ls st (ab_Cl 104 [v0, v1] w) := E_call2 rfl h1 h8
theorem e_102_47 {ls : ab_L} {w : ab_W} {x : Int32} (h : ab_fitr 2 (.int x) = true) : ab_Run ab_mt 102 47 ls [.int x] w = some (.inl (some (.int x)), w) := E_retz rfl h
theorem rv_102 {σ : ab_S} {t : Nat} {x0 : Int32} : ab_recv ab_mt 102 [.ref t, .int x0] σ = ab_isO 6 (σ t) := rfl
theorem e_103_0 {ls : ab_L} {st : List Value} {w : ab_W} (h : ab_isR (ls 0) = true) : ab_Run ab_mt 103 0 ls st w = ab_Run ab_mt 103 1 ls (ab_gv (ls 0) :: st) w := E_loadr (n := 1) rfl h
theorem e_103_1 {ls : ab_L} {st : List Value} {w : ab_W} {a : Nat} (h : ab_isF 6 4 (w.2 a) = true) : ab_Run ab_mt 103 1 ls (.ref a :: st) w = ab_Run ab_mt 103 4 ls (ab_fv 4 (w.2 a) :: st) w := E_get rfl h
theorem e_103_4 {ls : ab_L} {st : List Value} {w : ab_W} : ab_Run ab_mt 103 4 ls st w = ab_Run ab_mt 103 6 ls (.int (nI 10) :: st) w := E_push (n := 2) rfl
theorem e_103_6 {ls : ab_L} {st : List Value} {w : ab_W} {x y : Int32} : ab_Run ab_mt 103 6 ls (.int y :: .int x :: st) w = ab_Run ab_mt 103 7 ls (.int (x * y) :: st) w := E_ib (f := fun x y => x * y) rfl
theorem e_103_7 {ls : ab_L} {st : List Value} {w : ab_W} (h : ab_isI (ls 1) = true) : ab_Run ab_mt 103 7 ls st w = ab_Run ab_mt 103 8 ls (ab_gv (ls 1) :: st) w := E_loadi (n := 1) rfl h
theorem e_103_8 {ls : ab_L} {st : List Value} {w : ab_W} {x y : Int32} : ab_Run ab_mt 103 8 ls (.int y :: .int x :: st) w = ab_Run ab_mt 103 9 ls (.int (x + y) :: st) w := E_ib (f := fun x y => x + y) rfl
theorem e_103_9 {ls : ab_L} {st : List Value} {w : ab_W} {x : Int32} : ab_Run ab_mt 103 9 ls (.int x :: st) w = ab_Run ab_mt 103 10 (ab_l1 ls 2 (.int x)) st w := E_stori (n := 1) rfl
theorem e_103_10 {ls : ab_L} {st : List Value} {w : ab_W} (h : ab_isI (ls 2) = true) : ab_Run ab_mt 103 10 ls st w = ab_Run ab_mt 103 11 ls (ab_gv (ls 2) :: st) w := E_loadi (n := 1) rfl h
theorem e_103_11 {ls : ab_L} {st : List Value} {w : ab_W} {x : Int32} : ab_Run ab_mt 103 11 ls (.int x :: st) w = if x = 0 then ab_Run ab_mt 103 26 ls st w else ab_Run ab_mt 103 14 ls st w := E_if_eq rfl
theorem e_103_14 {ls : ab_L} {st : List Value} {w : ab_W} (h : ab_isI (ls 2) = true) : ab_Run ab_mt 103 14 ls st w = ab_Run ab_mt 103 15 ls (ab_gv (ls 2) :: st) w := E_loadi (n := 1) rfl h
theorem e_103_15 {ls : ab_L} {st : List Value} {w : ab_W} : ab_Run ab_mt 103 15 ls st w = ab_Run ab_mt 103 18 ls (.ref 2 :: st) w := E_push (n := 3) rfl
theorem e_103_18 {ls : ab_L} {st : List Value} {w : ab_W} (h : ab_isR (ls 0) = true) : ab_Run ab_mt 103 18 ls st w = ab_Run ab_mt 103 19 ls (ab_gv (ls 0) :: st) w := E_loadr (n := 1) rfl h
theorem e_103_19 {ls : ab_L} {st : List Value} {w : ab_W} {a : Nat} (h : ab_isF 6 3 (w.2 a) = true) : ab_Run ab_mt 103 19 ls (.ref a :: st) w = ab_Run ab_mt 103 22 ls (ab_fv 3 (w.2 a) :: st) w := E_get rfl h
theorem e_103_22 {ls : ab_L} {st : List Value} {w : ab_W} {a : Nat} {i : Int32} (h : ab_inI i (w.2 a) = true) : ab_Run ab_mt 103 22 ls (.int i :: .ref a :: st) w = ab_Run ab_mt 103 23 ls (.int (ab_aI i.toNatClampNeg (w.2 a)) :: st) w := E_iald rfl h
theorem e_103_23 {ls : ab_L} {st : List Value} {w : ab_W} {x y : Int32} : ab_Run ab_mt 103 23 ls (.int y :: .int x :: st) w = if x ≤ y then ab_Run ab_mt 103 28 ls st w else ab_Run ab_mt 103 26 ls st w := E_ic_le rfl
theorem e_103_26 {ls : ab_L} {st : List Value} {w : ab_W} : ab_Run ab_mt 103 26 ls st w = ab_Run ab_mt 103 27 ls (.int (nI 0) :: st) w := E_push (n := 1) rfl
theorem e_103_27 {ls : ab_L} {w : ab_W} {x : Int32} (h : ab_fitr 2 (.int x) = true) : ab_Run ab_mt 103 27 ls [.int x] w = some (.inl (some (.int x)), w) := E_retz rfl h
theorem e_103_28 {ls : ab_L} {st : List Value} {w : ab_W} (h : ab_isR (ls 0) = true) : ab_Run ab_mt 103 28 ls st w = ab_Run ab_mt 103 29 ls (ab_gv (ls 0) :: st) w := E_loadr (n := 1) rfl h
theorem e_103_29 {ls : ab_L} {st : List Value} {w : ab_W} (h : ab_isI (ls 2) = true) : ab_Run ab_mt 103 29 ls st w = ab_Run ab_mt 103 30 ls (ab_gv (ls 2) :: st) w := E_loadi (n := 1) rfl h
theorem e_103_30 {ls : ab_L} {st : List Value} {w : ab_W} {a : Nat} {x : Int32} (h : ab_isF 6 4 (w.2 a) = true) : ab_Run ab_mt 103 30 ls (.int x :: .ref a :: st) w = ab_Run ab_mt 103 33 ls st (w.1, ab_up w.2 a (ab_sf 4 (.int x) (w.2 a))) := E_put rfl h rfl
theorem e_103_33 {ls : ab_L} {st : List Value} {w : ab_W} (h : ab_isR (ls 0) = true) : ab_Run ab_mt 103 33 ls st w = ab_Run ab_mt 103 34 ls (ab_gv (ls 0) :: st) w := E_loadr (n := 1) rfl h
theorem e_103_34 {ls : ab_L} {st : List Value} {w : ab_W} {a : Nat} (h : ab_isF 6 0 (w.2 a) = true) : ab_Run ab_mt 103 34 ls (.ref a :: st) w = ab_Run ab_mt 103 37 ls (ab_fv 0 (w.2 a) :: st) w := E_get rfl h
theorem e_103_37 {ls : ab_L} {st : List Value} {w : ab_W} (h : ab_isR (ls 0) = true) : ab_Run ab_mt 103 37 ls st w = ab_Run ab_mt 103 38 ls (ab_gv (ls 0) :: st) w := E_loadr (n := 1) rfl h
theorem e_103_38 {ls : ab_L} {st : List Value} {w : ab_W} {a : Nat} (h : ab_isF 6 0 (w.2 a) = true) : ab_Run ab_mt 103 38 ls (.ref a :: st) w = ab_Run ab_mt 103 41 ls (ab_fv 0 (w.2 a) :: st) w := E_get rfl h
theorem e_103_41 {ls : ab_L} {st : List Value} {w : ab_W} {a : Nat} (h : ab_isF 3 3 (w.2 a) = true) : ab_Run ab_mt 103 41 ls (.ref a :: st) w = ab_Run ab_mt 103 44 ls (ab_fv 3 (w.2 a) :: st) w := E_get rfl h
theorem e_103_44 {ls : ab_L} {st : List Value} {w : ab_W} : ab_Run ab_mt 103 44 ls st w = ab_Run ab_mt 103 45 ls (.int (nI 1) :: st) w := E_push (n := 1) rfl
theorem e_103_45 {ls : ab_L} {st : List Value} {w : ab_W} {x y : Int32} : ab_Run ab_mt 103 45 ls (.int y :: .int x :: st) w = ab_Run ab_mt 103 46 ls (.int (x - y) :: st) w := E_ib (f := fun x y => x - y) rfl
theorem e_103_46 {ls : ab_L} {st : List Value} {w : ab_W} (h : ab_isR (ls 0) = true) : ab_Run ab_mt 103 46 ls st w = ab_Run ab_mt 103 47 ls (ab_gv (ls 0) :: st) w := E_loadr (n := 1) rfl h
theorem e_103_47 {ls : ab_L} {st : List Value} {w : ab_W} {a : Nat} (h : ab_isF 6 3 (w.2 a) = true) : ab_Run ab_mt 103 47 ls (.ref a :: st) w = ab_Run ab_mt 103 50 ls (ab_fv 3 (w.2 a) :: st) w := E_get rfl h
theorem e_103_50 {ls : ab_L} {st : List Value} {w : ab_W} (h : ab_isR (ls 0) = true) : ab_Run ab_mt 103 50 ls st w = ab_Run ab_mt 103 51 ls (ab_gv (ls 0) :: st) w := E_loadr (n := 1) rfl h
theorem e_103_51 {ls : ab_L} {st : List Value} {w : ab_W} {a : Nat} (h : ab_isF 6 4 (w.2 a) = true) : ab_Run ab_mt 103 51 ls (.ref a :: st) w = ab_Run ab_mt 103 54 ls (ab_fv 4 (w.2 a) :: st) w := E_get rfl h
theorem e_103_54 {ls : ab_L} {st : List Value} {w : ab_W} {v0 v1 v2 v3 : Value} (h1 : ab_recv ab_mt 76 [v0, v1, v2, v3] w.2 = true) (h8 : ab_w8 st = true) : ab_Run ab_mt 103 54 ls (v3 :: v2 :: v1 :: v0 :: st) w = ab_aft 76 103 54 ls st (ab_Cl 76 [v0, v1, v2, v3] w) := E_call4 rfl h1 h8
theorem e_103_57 {ls : ab_L} {st : List Value} {w : ab_W} : ab_Run ab_mt 103 57 ls st w = ab_Run ab_mt 103 58 ls (.int (nI 1) :: st) w := E_push (n := 1) rfl
theorem e_103_58 {ls : ab_L} {w : ab_W} {x : Int32} (h : ab_fitr 2 (.int x) = true) : ab_Run ab_mt 103 58 ls [.int x] w = some (.inl (some (.int x)), w) := E_retz rfl h
theorem rv_103 {σ : ab_S} {t : Nat} {x0 : Int32} : ab_recv ab_mt 103 [.ref t, .int x0] σ = ab_isO 6 (σ t) := rfl
theorem e_104_0 {ls : ab_L} {st : List Value} {w : ab_W} (h : ab_isI (ls 1) = true) : ab_Run ab_mt 104 0 ls st w = ab_Run ab_mt 104 1 ls (ab_gv (ls 1) :: st) w := E_loadi (n := 1) rfl h
theorem e_104_1 {ls : ab_L} {st : List Value} {w : ab_W} : ab_Run ab_mt 104 1 ls st w = ab_Run ab_mt 104 3 ls (.int (nI 100) :: st) w := E_push (n := 2) rfl
theorem e_104_3 {ls : ab_L} {st : List Value} {w : ab_W} {x y : Int32} : ab_Run ab_mt 104 3 ls (.int y :: .int x :: st) w = if x = y then ab_Run ab_mt 104 6 ls st w else ab_Run ab_mt 104 10 ls st w := E_ic_ne rfl
theorem e_104_6 {ls : ab_L} {st : List Value} {w : ab_W} : ab_Run ab_mt 104 6 ls st w = ab_Run ab_mt 104 7 ls (.int (nI 1) :: st) w := E_push (n := 1) rfl
theorem e_104_7 {ls : ab_L} {st : List Value} {w : ab_W} : ab_Run ab_mt 104 7 ls st w = ab_Run ab_mt 104 31 ls st w := E_goto rfl
theorem e_104_10 {ls : ab_L} {st : List Value} {w : ab_W} (h : ab_isI (ls 1) = true) : ab_Run ab_mt 104 10 ls st w = ab_Run ab_mt 104 11 ls (ab_gv (ls 1) :: st) w := E_loadi (n := 1) rfl h
theorem e_104_11 {ls : ab_L} {st : List Value} {w : ab_W} : ab_Run ab_mt 104 11 ls st w = ab_Run ab_mt 104 13 ls (.int (nI 114) :: st) w := E_push (n := 2) rfl
theorem e_104_13 {ls : ab_L} {st : List Value} {w : ab_W} {x y : Int32} : ab_Run ab_mt 104 13 ls (.int y :: .int x :: st) w = if x = y then ab_Run ab_mt 104 16 ls st w else ab_Run ab_mt 104 20 ls st w := E_ic_ne rfl
theorem e_104_16 {ls : ab_L} {st : List Value} {w : ab_W} : ab_Run ab_mt 104 16 ls st w = ab_Run ab_mt 104 17 ls (.int (nI 2) :: st) w := E_push (n := 1) rfl
theorem e_104_17 {ls : ab_L} {st : List Value} {w : ab_W} : ab_Run ab_mt 104 17 ls st w = ab_Run ab_mt 104 31 ls st w := E_goto rfl
theorem e_104_20 {ls : ab_L} {st : List Value} {w : ab_W} (h : ab_isI (ls 1) = true) : ab_Run ab_mt 104 20 ls st w = ab_Run ab_mt 104 21 ls (ab_gv (ls 1) :: st) w := E_loadi (n := 1) rfl h
theorem e_104_21 {ls : ab_L} {st : List Value} {w : ab_W} : ab_Run ab_mt 104 21 ls st w = ab_Run ab_mt 104 23 ls (.int (nI 112) :: st) w := E_push (n := 2) rfl
theorem e_104_23 {ls : ab_L} {st : List Value} {w : ab_W} {x y : Int32} : ab_Run ab_mt 104 23 ls (.int y :: .int x :: st) w = if x = y then ab_Run ab_mt 104 26 ls st w else ab_Run ab_mt 104 30 ls st w := E_ic_ne rfl
theorem e_104_26 {ls : ab_L} {st : List Value} {w : ab_W} : ab_Run ab_mt 104 26 ls st w = ab_Run ab_mt 104 27 ls (.int (nI 3) :: st) w := E_push (n := 1) rfl
theorem e_104_27 {ls : ab_L} {st : List Value} {w : ab_W} : ab_Run ab_mt 104 27 ls st w = ab_Run ab_mt 104 31 ls st w := E_goto rfl
theorem e_104_30 {ls : ab_L} {st : List Value} {w : ab_W} : ab_Run ab_mt 104 30 ls st w = ab_Run ab_mt 104 31 ls (.int (nI 0) :: st) w := E_push (n := 1) rfl
theorem e_104_31 {ls : ab_L} {st : List Value} {w : ab_W} {x : Int32} : ab_Run ab_mt 104 31 ls (.int x :: st) w = ab_Run ab_mt 104 32 (ab_l1 ls 2 (.int x)) st w := E_stori (n := 1) rfl
theorem e_104_32 {ls : ab_L} {st : List Value} {w : ab_W} (h : ab_isI (ls 2) = true) : ab_Run ab_mt 104 32 ls st w = ab_Run ab_mt 104 33 ls (ab_gv (ls 2) :: st) w := E_loadi (n := 1) rfl h
theorem e_104_33 {ls : ab_L} {st : List Value} {w : ab_W} (h : ab_isR (ls 0) = true) : ab_Run ab_mt 104 33 ls st w = ab_Run ab_mt 104 34 ls (ab_gv (ls 0) :: st) w := E_loadr (n := 1) rfl h
theorem e_104_34 {ls : ab_L} {st : List Value} {w : ab_W} {a : Nat} (h : ab_isF 6 3 (w.2 a) = true) : ab_Run ab_mt 104 34 ls (.ref a :: st) w = ab_Run ab_mt 104 37 ls (ab_fv 3 (w.2 a) :: st) w := E_get rfl h
theorem e_104_37 {ls : ab_L} {st : List Value} {w : ab_W} {x y : Int32} : ab_Run ab_mt 104 37 ls (.int y :: .int x :: st) w = if y < x then ab_Run ab_mt 104 42 ls st w else ab_Run ab_mt 104 40 ls st w := E_ic_gt rfl
theorem e_104_40 {ls : ab_L} {st : List Value} {w : ab_W} : ab_Run ab_mt 104 40 ls st w = ab_Run ab_mt 104 41 ls (.int (nI 0) :: st) w := E_push (n := 1) rfl
theorem e_104_41 {ls : ab_L} {w : ab_W} {x : Int32} (h : ab_fitr 2 (.int x) = true) : ab_Run ab_mt 104 41 ls [.int x] w = some (.inl (some (.int x)), w) := E_retz rfl h
theorem e_104_42 {ls : ab_L} {st : List Value} {w : ab_W} (h : ab_isR (ls 0) = true) : ab_Run ab_mt 104 42 ls st w = ab_Run ab_mt 104 43 ls (ab_gv (ls 0) :: st) w := E_loadr (n := 1) rfl h
theorem e_104_43 {ls : ab_L} {st : List Value} {w : ab_W} (h : ab_isI (ls 2) = true) : ab_Run ab_mt 104 43 ls st w = ab_Run ab_mt 104 44 ls (ab_gv (ls 2) :: st) w := E_loadi (n := 1) rfl h
theorem e_104_44 {ls : ab_L} {st : List Value} {w : ab_W} {a : Nat} {x : Int32} (h : ab_isF 6 3 (w.2 a) = true) : ab_Run ab_mt 104 44 ls (.int x :: .ref a :: st) w = ab_Run ab_mt 104 47 ls st (w.1, ab_up w.2 a (ab_sf 3 (.int x) (w.2 a))) := E_put rfl h rfl
theorem e_104_47 {ls : ab_L} {st : List Value} {w : ab_W} (h : ab_isR (ls 0) = true) : ab_Run ab_mt 104 47 ls st w = ab_Run ab_mt 104 48 ls (ab_gv (ls 0) :: st) w := E_loadr (n := 1) rfl h
theorem e_104_48 {ls : ab_L} {st : List Value} {w : ab_W} : ab_Run ab_mt 104 48 ls st w = ab_Run ab_mt 104 49 ls (.int (nI 0) :: st) w := E_push (n := 1) rfl
theorem e_104_49 {ls : ab_L} {st : List Value} {w : ab_W} {a : Nat} {x : Int32} (h : ab_isF 6 4 (w.2 a) = true) : ab_Run ab_mt 104 49 ls (.int x :: .ref a :: st) w = ab_Run ab_mt 104 52 ls st (w.1, ab_up w.2 a (ab_sf 4 (.int x) (w.2 a))) := E_put rfl h rfl
theorem e_104_52 {ls : ab_L} {st : List Value} {w : ab_W} : ab_Run ab_mt 104 52 ls st w = ab_Run ab_mt 104 53 ls (.int (nI 1) :: st) w := E_push (n := 1) rfl
theorem e_104_53 {ls : ab_L} {w : ab_W} {x : Int32} (h : ab_fitr 2 (.int x) = true) : ab_Run ab_mt 104 53 ls [.int x] w = some (.inl (some (.int x)), w) := E_retz rfl h
theorem rv_104 {σ : ab_S} {t : Nat} {x0 : Int32} : ab_recv ab_mt 104 [.ref t, .int x0] σ = ab_isO 6 (σ t) := rfl
theorem e_105_0 {ls : ab_L} {st : List Value} {w : ab_W} (h : ab_isR (ls 0) = true) : ab_Run ab_mt 105 0 ls st w = ab_Run ab_mt 105 1 ls (ab_gv (ls 0) :: st) w := E_loadr (n := 1) rfl h
theorem e_105_1 {ls : ab_L} {st : List Value} {w : ab_W} {a : Nat} (h8 : ab_w8 st = true) : ab_Run ab_mt 105 1 ls (.ref a :: st) w = ab_Run ab_mt 105 4 ls st w := E_oini rfl h8
theorem e_105_4 {ls : ab_L} {st : List Value} {w : ab_W} (h : ab_isR (ls 0) = true) : ab_Run ab_mt 105 4 ls st w = ab_Run ab_mt 105 5 ls (ab_gv (ls 0) :: st) w := E_loadr (n := 1) rfl h
theorem e_105_5 {ls : ab_L} {st : List Value} {w : ab_W} : ab_Run ab_mt 105 5 ls st w = ab_Run ab_mt 105 8 ls (.int (nI 193) :: st) w := E_push (n := 3) rfl
theorem e_105_8 {ls : ab_L} {st : List Value} {w : ab_W} {n : Int32} (h : w.1.1 = true) (hn : ¬ (n < 0 ∨ 60000 < n.toNatClampNeg)) : ab_Run ab_mt 105 8 ls (.int n :: st) w = ab_Run ab_mt 105 10 ls (.ref w.1.2.1 :: st) (ab_mk w.1 w.2 (ab_ia n.toNatClampNeg (fun _ => 0)) n.toNatClampNeg) := E_new (n := 2) (x := ab_ia n.toNatClampNeg (fun _ => 0)) (sz := n.toNatClampNeg) (rest := st) rfl (if_neg hn) h
theorem e_105_10 {ls : ab_L} {st : List Value} {w : ab_W} {a : Nat} {x : Nat} (h : ab_isF 7 1 (w.2 a) = true) : ab_Run ab_mt 105 10 ls (.ref x :: .ref a :: st) w = ab_Run ab_mt 105 13 ls st (w.1, ab_up w.2 a (ab_sf 1 (.ref x) (w.2 a))) := E_put rfl h rfl
theorem e_105_13 {ls : ab_L} {st : List Value} {w : ab_W} (h : ab_isR (ls 0) = true) : ab_Run ab_mt 105 13 ls st w = ab_Run ab_mt 105 14 ls (ab_gv (ls 0) :: st) w := E_loadr (n := 1) rfl h
theorem e_105_14 {ls : ab_L} {st : List Value} {w : ab_W} : ab_Run ab_mt 105 14 ls st w = ab_Run ab_mt 105 17 ls (.int (nI 193) :: st) w := E_push (n := 3) rfl
theorem e_105_17 {ls : ab_L} {st : List Value} {w : ab_W} {n : Int32} (h : w.1.1 = true) (hn : ¬ (n < 0 ∨ 60000 < n.toNatClampNeg)) : ab_Run ab_mt 105 17 ls (.int n :: st) w = ab_Run ab_mt 105 19 ls (.ref w.1.2.1 :: st) (ab_mk w.1 w.2 (ab_ia n.toNatClampNeg (fun _ => 0)) n.toNatClampNeg) := E_new (n := 2) (x := ab_ia n.toNatClampNeg (fun _ => 0)) (sz := n.toNatClampNeg) (rest := st) rfl (if_neg hn) h
theorem e_105_19 {ls : ab_L} {st : List Value} {w : ab_W} {a : Nat} {x : Nat} (h : ab_isF 7 2 (w.2 a) = true) : ab_Run ab_mt 105 19 ls (.ref x :: .ref a :: st) w = ab_Run ab_mt 105 22 ls st (w.1, ab_up w.2 a (ab_sf 2 (.ref x) (w.2 a))) := E_put rfl h rfl
theorem e_105_22 {ls : ab_L} {st : List Value} {w : ab_W} (h : ab_isR (ls 0) = true) : ab_Run ab_mt 105 22 ls st w = ab_Run ab_mt 105 23 ls (ab_gv (ls 0) :: st) w := E_loadr (n := 1) rfl h
theorem e_105_23 {ls : ab_L} {st : List Value} {w : ab_W} : ab_Run ab_mt 105 23 ls st w = ab_Run ab_mt 105 26 ls (.int (nI 1544) :: st) w := E_push (n := 3) rfl
theorem e_105_26 {ls : ab_L} {st : List Value} {w : ab_W} {n : Int32} (h : w.1.1 = true) (hn : ¬ (n < 0 ∨ 60000 < n.toNatClampNeg)) : ab_Run ab_mt 105 26 ls (.int n :: st) w = ab_Run ab_mt 105 28 ls (.ref w.1.2.1 :: st) (ab_mk w.1 w.2 (ab_ia n.toNatClampNeg (fun _ => 0)) n.toNatClampNeg) := E_new (n := 2) (x := ab_ia n.toNatClampNeg (fun _ => 0)) (sz := n.toNatClampNeg) (rest := st) rfl (if_neg hn) h
theorem e_105_28 {ls : ab_L} {st : List Value} {w : ab_W} {a : Nat} {x : Nat} (h : ab_isF 7 4 (w.2 a) = true) : ab_Run ab_mt 105 28 ls (.ref x :: .ref a :: st) w = ab_Run ab_mt 105 31 ls st (w.1, ab_up w.2 a (ab_sf 4 (.ref x) (w.2 a))) := E_put rfl h rfl
theorem e_105_31 {ls : ab_L} {st : List Value} {w : ab_W} (h : ab_isR (ls 0) = true) : ab_Run ab_mt 105 31 ls st w = ab_Run ab_mt 105 32 ls (ab_gv (ls 0) :: st) w := E_loadr (n := 1) rfl h
theorem e_105_32 {ls : ab_L} {st : List Value} {w : ab_W} : ab_Run ab_mt 105 32 ls st w = ab_Run ab_mt 105 35 ls (.int (nI 386) :: st) w := E_push (n := 3) rfl
theorem e_105_35 {ls : ab_L} {st : List Value} {w : ab_W} {n : Int32} (h : w.1.1 = true) (hn : ¬ (n < 0 ∨ 60000 < n.toNatClampNeg)) : ab_Run ab_mt 105 35 ls (.int n :: st) w = ab_Run ab_mt 105 37 ls (.ref w.1.2.1 :: st) (ab_mk w.1 w.2 (ab_ia n.toNatClampNeg (fun _ => 0)) n.toNatClampNeg) := E_new (n := 2) (x := ab_ia n.toNatClampNeg (fun _ => 0)) (sz := n.toNatClampNeg) (rest := st) rfl (if_neg hn) h
theorem e_105_37 {ls : ab_L} {st : List Value} {w : ab_W} {a : Nat} {x : Nat} (h : ab_isF 7 6 (w.2 a) = true) : ab_Run ab_mt 105 37 ls (.ref x :: .ref a :: st) w = ab_Run ab_mt 105 40 ls st (w.1, ab_up w.2 a (ab_sf 6 (.ref x) (w.2 a))) := E_put rfl h rfl
theorem e_105_40 {ls : ab_L} {st : List Value} {w : ab_W} (h : ab_isR (ls 0) = true) : ab_Run ab_mt 105 40 ls st w = ab_Run ab_mt 105 41 ls (ab_gv (ls 0) :: st) w := E_loadr (n := 1) rfl h
theorem e_105_41 {ls : ab_L} {st : List Value} {w : ab_W} : ab_Run ab_mt 105 41 ls st w = ab_Run ab_mt 105 43 ls (.int (nI 60) :: st) w := E_push (n := 2) rfl
theorem e_105_43 {ls : ab_L} {st : List Value} {w : ab_W} {n : Int32} (h : w.1.1 = true) (hn : ¬ (n < 0 ∨ 60000 < n.toNatClampNeg)) : ab_Run ab_mt 105 43 ls (.int n :: st) w = ab_Run ab_mt 105 45 ls (.ref w.1.2.1 :: st) (ab_mk w.1 w.2 (ab_ia n.toNatClampNeg (fun _ => 0)) n.toNatClampNeg) := E_new (n := 2) (x := ab_ia n.toNatClampNeg (fun _ => 0)) (sz := n.toNatClampNeg) (rest := st) rfl (if_neg hn) h
theorem e_105_45 {ls : ab_L} {st : List Value} {w : ab_W} {a : Nat} {x : Nat} (h : ab_isF 7 8 (w.2 a) = true) : ab_Run ab_mt 105 45 ls (.ref x :: .ref a :: st) w = ab_Run ab_mt 105 48 ls st (w.1, ab_up w.2 a (ab_sf 8 (.ref x) (w.2 a))) := E_put rfl h rfl
theorem e_105_48 {ls : ab_L} {st : List Value} {w : ab_W} (h : ab_isR (ls 0) = true) : ab_Run ab_mt 105 48 ls st w = ab_Run ab_mt 105 49 ls (ab_gv (ls 0) :: st) w := E_loadr (n := 1) rfl h
theorem e_105_49 {ls : ab_L} {st : List Value} {w : ab_W} : ab_Run ab_mt 105 49 ls st w = ab_Run ab_mt 105 52 ls (.int (nI 288) :: st) w := E_push (n := 3) rfl
theorem e_105_52 {ls : ab_L} {st : List Value} {w : ab_W} {n : Int32} (h : w.1.1 = true) (hn : ¬ (n < 0 ∨ 60000 < n.toNatClampNeg)) : ab_Run ab_mt 105 52 ls (.int n :: st) w = ab_Run ab_mt 105 54 ls (.ref w.1.2.1 :: st) (ab_mk w.1 w.2 (ab_ia n.toNatClampNeg (fun _ => 0)) n.toNatClampNeg) := E_new (n := 2) (x := ab_ia n.toNatClampNeg (fun _ => 0)) (sz := n.toNatClampNeg) (rest := st) rfl (if_neg hn) h
theorem e_105_54 {ls : ab_L} {st : List Value} {w : ab_W} {a : Nat} {x : Nat} (h : ab_isF 7 14 (w.2 a) = true) : ab_Run ab_mt 105 54 ls (.ref x :: .ref a :: st) w = ab_Run ab_mt 105 57 ls st (w.1, ab_up w.2 a (ab_sf 14 (.ref x) (w.2 a))) := E_put rfl h rfl
theorem e_105_57 {ls : ab_L} {st : List Value} {w : ab_W} (h : ab_isR (ls 0) = true) : ab_Run ab_mt 105 57 ls st w = ab_Run ab_mt 105 58 ls (ab_gv (ls 0) :: st) w := E_loadr (n := 1) rfl h
theorem e_105_58 {ls : ab_L} {st : List Value} {w : ab_W} : ab_Run ab_mt 105 58 ls st w = ab_Run ab_mt 105 61 ls (.int (nI 288) :: st) w := E_push (n := 3) rfl
theorem e_105_61 {ls : ab_L} {st : List Value} {w : ab_W} {n : Int32} (h : w.1.1 = true) (hn : ¬ (n < 0 ∨ 60000 < n.toNatClampNeg)) : ab_Run ab_mt 105 61 ls (.int n :: st) w = ab_Run ab_mt 105 63 ls (.ref w.1.2.1 :: st) (ab_mk w.1 w.2 (ab_la n.toNatClampNeg (fun _ => 0)) n.toNatClampNeg) := E_new (n := 2) (x := ab_la n.toNatClampNeg (fun _ => 0)) (sz := n.toNatClampNeg) (rest := st) rfl (if_neg hn) h
theorem e_105_63 {ls : ab_L} {st : List Value} {w : ab_W} {a : Nat} {x : Nat} (h : ab_isF 7 15 (w.2 a) = true) : ab_Run ab_mt 105 63 ls (.ref x :: .ref a :: st) w = ab_Run ab_mt 105 66 ls st (w.1, ab_up w.2 a (ab_sf 15 (.ref x) (w.2 a))) := E_put rfl h rfl
theorem e_105_66 {ls : ab_L} {st : List Value} {w : ab_W} (h : ab_isR (ls 0) = true) : ab_Run ab_mt 105 66 ls st w = ab_Run ab_mt 105 67 ls (ab_gv (ls 0) :: st) w := E_loadr (n := 1) rfl h
theorem e_105_67 {ls : ab_L} {st : List Value} {w : ab_W} : ab_Run ab_mt 105 67 ls st w = ab_Run ab_mt 105 70 ls (.int (nI 288) :: st) w := E_push (n := 3) rfl
theorem e_105_70 {ls : ab_L} {st : List Value} {w : ab_W} {n : Int32} (h : w.1.1 = true) (hn : ¬ (n < 0 ∨ 60000 < n.toNatClampNeg)) : ab_Run ab_mt 105 70 ls (.int n :: st) w = ab_Run ab_mt 105 72 ls (.ref w.1.2.1 :: st) (ab_mk w.1 w.2 (ab_la n.toNatClampNeg (fun _ => 0)) n.toNatClampNeg) := E_new (n := 2) (x := ab_la n.toNatClampNeg (fun _ => 0)) (sz := n.toNatClampNeg) (rest := st) rfl (if_neg hn) h
theorem e_105_72 {ls : ab_L} {st : List Value} {w : ab_W} {a : Nat} {x : Nat} (h : ab_isF 7 16 (w.2 a) = true) : ab_Run ab_mt 105 72 ls (.ref x :: .ref a :: st) w = ab_Run ab_mt 105 75 ls st (w.1, ab_up w.2 a (ab_sf 16 (.ref x) (w.2 a))) := E_put rfl h rfl
theorem e_105_75 {ls : ab_L} {st : List Value} {w : ab_W} (h : ab_isR (ls 0) = true) : ab_Run ab_mt 105 75 ls st w = ab_Run ab_mt 105 76 ls (ab_gv (ls 0) :: st) w := E_loadr (n := 1) rfl h
theorem e_105_76 {ls : ab_L} {st : List Value} {w : ab_W} : ab_Run ab_mt 105 76 ls st w = ab_Run ab_mt 105 79 ls (.int (nI 160) :: st) w := E_push (n := 3) rfl
theorem e_105_79 {ls : ab_L} {st : List Value} {w : ab_W} {n : Int32} (h : w.1.1 = true) (hn : ¬ (n < 0 ∨ 60000 < n.toNatClampNeg)) : ab_Run ab_mt 105 79 ls (.int n :: st) w = ab_Run ab_mt 105 81 ls (.ref w.1.2.1 :: st) (ab_mk w.1 w.2 (ab_ia n.toNatClampNeg (fun _ => 0)) n.toNatClampNeg) := E_new (n := 2) (x := ab_ia n.toNatClampNeg (fun _ => 0)) (sz := n.toNatClampNeg) (rest := st) rfl (if_neg hn) h
theorem e_105_81 {ls : ab_L} {st : List Value} {w : ab_W} {a : Nat} {x : Nat} (h : ab_isF 7 19 (w.2 a) = true) : ab_Run ab_mt 105 81 ls (.ref x :: .ref a :: st) w = ab_Run ab_mt 105 84 ls st (w.1, ab_up w.2 a (ab_sf 19 (.ref x) (w.2 a))) := E_put rfl h rfl
theorem e_105_84 {ls : ab_L} {w : ab_W} : ab_Run ab_mt 105 84 ls [] w = some (.inl none, w) := E_ret0 rfl
theorem rv_105 {σ : ab_S} {t : Nat} : ab_recv ab_mt 105 [.ref t] σ = ab_isO 7 (σ t) := rfl
theorem e_106_0 {ls : ab_L} {st : List Value} {w : ab_W} (h : ab_isR (ls 0) = true) : ab_Run ab_mt 106 0 ls st w = ab_Run ab_mt 106 1 ls (ab_gv (ls 0) :: st) w := E_loadr (n := 1) rfl h
theorem e_106_1 {ls : ab_L} {st : List Value} {w : ab_W} {a : Nat} (h : ab_isF 7 0 (w.2 a) = true) : ab_Run ab_mt 106 1 ls (.ref a :: st) w = ab_Run ab_mt 106 4 ls (ab_fv 0 (w.2 a) :: st) w := E_get rfl h
theorem e_106_4 {ls : ab_L} {w : ab_W} {x : Int32} : ab_Run ab_mt 106 4 ls [.int x] w = some (.inl (some (.int x)), w) := E_reti rfl
theorem rv_106 {σ : ab_S} {t : Nat} : ab_recv ab_mt 106 [.ref t] σ = ab_isO 7 (σ t) := rfl
theorem e_107_0 {ls : ab_L} {st : List Value} {w : ab_W} (h : ab_isL (ls 0) = true) (h2 : (ls 1).isNone = true) : ab_Run ab_mt 107 0 ls st w = ab_Run ab_mt 107 1 ls (ab_gv (ls 0) :: st) w := E_loadl (n := 1) rfl h h2
theorem e_107_1 {ls : ab_L} {st : List Value} {w : ab_W} (h : ab_isL (ls 2) = true) (h2 : (ls 3).isNone = true) : ab_Run ab_mt 107 1 ls st w = ab_Run ab_mt 107 2 ls (ab_gv (ls 2) :: st) w := E_loadl (n := 1) rfl h h2
theorem e_107_2 {ls : ab_L} {st : List Value} {w : ab_W} {x y : Int64} : ab_Run ab_mt 107 2 ls (.long y :: .long x :: st) w = ab_Run ab_mt 107 3 ls (.int (lg_cmp x y) :: st) w := E_lcmp rfl
theorem e_107_3 {ls : ab_L} {st : List Value} {w : ab_W} {x : Int32} : ab_Run ab_mt 107 3 ls (.int x :: st) w = if x < 0 then ab_Run ab_mt 107 17 ls st w else ab_Run ab_mt 107 6 ls st w := E_if_lt rfl
theorem e_107_6 {ls : ab_L} {st : List Value} {w : ab_W} (h : ab_isL (ls 0) = true) (h2 : (ls 1).isNone = true) : ab_Run ab_mt 107 6 ls st w = ab_Run ab_mt 107 7 ls (ab_gv (ls 0) :: st) w := E_loadl (n := 1) rfl h h2
theorem e_107_7 {ls : ab_L} {st : List Value} {w : ab_W} (h : ab_isL (ls 4) = true) (h2 : (ls 5).isNone = true) : ab_Run ab_mt 107 7 ls st w = ab_Run ab_mt 107 9 ls (ab_gv (ls 4) :: st) w := E_loadl (n := 2) rfl h h2
theorem e_107_9 {ls : ab_L} {st : List Value} {w : ab_W} {x y : Int64} : ab_Run ab_mt 107 9 ls (.long y :: .long x :: st) w = ab_Run ab_mt 107 10 ls (.int (lg_cmp x y) :: st) w := E_lcmp rfl
theorem e_107_10 {ls : ab_L} {st : List Value} {w : ab_W} {x : Int32} : ab_Run ab_mt 107 10 ls (.int x :: st) w = if 0 < x then ab_Run ab_mt 107 17 ls st w else ab_Run ab_mt 107 13 ls st w := E_if_gt rfl
theorem e_107_13 {ls : ab_L} {st : List Value} {w : ab_W} : ab_Run ab_mt 107 13 ls st w = ab_Run ab_mt 107 14 ls (.int (nI 1) :: st) w := E_push (n := 1) rfl
theorem e_107_14 {ls : ab_L} {st : List Value} {w : ab_W} : ab_Run ab_mt 107 14 ls st w = ab_Run ab_mt 107 18 ls st w := E_goto rfl
theorem e_107_17 {ls : ab_L} {st : List Value} {w : ab_W} : ab_Run ab_mt 107 17 ls st w = ab_Run ab_mt 107 18 ls (.int (nI 0) :: st) w := E_push (n := 1) rfl
theorem e_107_18 {ls : ab_L} {w : ab_W} {x : Int32} (h : ab_fitr 2 (.int x) = true) : ab_Run ab_mt 107 18 ls [.int x] w = some (.inl (some (.int x)), w) := E_retz rfl h
theorem rv_107 {σ : ab_S} {x0 : Int64} {x1 : Int64} {x2 : Int64} : ab_recv ab_mt 107 [.long x0, .long x1, .long x2] σ = true := rfl
theorem e_108_0 {ls : ab_L} {st : List Value} {w : ab_W} (h : ab_isR (ls 0) = true) : ab_Run ab_mt 108 0 ls st w = ab_Run ab_mt 108 1 ls (ab_gv (ls 0) :: st) w := E_loadr (n := 1) rfl h
theorem e_108_1 {ls : ab_L} {st : List Value} {w : ab_W} {a : Nat} (h : ab_isF 7 1 (w.2 a) = true) : ab_Run ab_mt 108 1 ls (.ref a :: st) w = ab_Run ab_mt 108 4 ls (ab_fv 1 (w.2 a) :: st) w := E_get rfl h
theorem e_108_4 {ls : ab_L} {st : List Value} {w : ab_W} : ab_Run ab_mt 108 4 ls st w = ab_Run ab_mt 108 7 ls (.int (nI 190) :: st) w := E_push (n := 3) rfl
theorem e_108_7 {ls : ab_L} {st : List Value} {w : ab_W} {a : Nat} {i : Int32} (h : ab_inI i (w.2 a) = true) : ab_Run ab_mt 108 7 ls (.int i :: .ref a :: st) w = ab_Run ab_mt 108 8 ls (.int (ab_aI i.toNatClampNeg (w.2 a)) :: st) w := E_iald rfl h
theorem e_108_8 {ls : ab_L} {w : ab_W} {x : Int32} : ab_Run ab_mt 108 8 ls [.int x] w = some (.inl (some (.int x)), w) := E_reti rfl
theorem rv_108 {σ : ab_S} {t : Nat} : ab_recv ab_mt 108 [.ref t] σ = ab_isO 7 (σ t) := rfl
theorem e_109_0 {ls : ab_L} {st : List Value} {w : ab_W} (h : ab_isR (ls 0) = true) : ab_Run ab_mt 109 0 ls st w = ab_Run ab_mt 109 1 ls (ab_gv (ls 0) :: st) w := E_loadr (n := 1) rfl h
theorem e_109_1 {ls : ab_L} {st : List Value} {w : ab_W} {a : Nat} (h : ab_isF 7 1 (w.2 a) = true) : ab_Run ab_mt 109 1 ls (.ref a :: st) w = ab_Run ab_mt 109 4 ls (ab_fv 1 (w.2 a) :: st) w := E_get rfl h
theorem e_109_4 {ls : ab_L} {st : List Value} {w : ab_W} : ab_Run ab_mt 109 4 ls st w = ab_Run ab_mt 109 5 ls (.int (nI 5) :: st) w := E_push (n := 1) rfl
theorem e_109_5 {ls : ab_L} {st : List Value} {w : ab_W} (h : ab_isI (ls 1) = true) : ab_Run ab_mt 109 5 ls st w = ab_Run ab_mt 109 6 ls (ab_gv (ls 1) :: st) w := E_loadi (n := 1) rfl h
theorem e_109_6 {ls : ab_L} {st : List Value} {w : ab_W} {x y : Int32} : ab_Run ab_mt 109 6 ls (.int y :: .int x :: st) w = ab_Run ab_mt 109 7 ls (.int (x * y) :: st) w := E_ib (f := fun x y => x * y) rfl
theorem e_109_7 {ls : ab_L} {st : List Value} {w : ab_W} (h : ab_isI (ls 2) = true) : ab_Run ab_mt 109 7 ls st w = ab_Run ab_mt 109 8 ls (ab_gv (ls 2) :: st) w := E_loadi (n := 1) rfl h
theorem e_109_8 {ls : ab_L} {st : List Value} {w : ab_W} {x y : Int32} : ab_Run ab_mt 109 8 ls (.int y :: .int x :: st) w = ab_Run ab_mt 109 9 ls (.int (x + y) :: st) w := E_ib (f := fun x y => x + y) rfl
theorem e_109_9 {ls : ab_L} {st : List Value} {w : ab_W} {a : Nat} {i : Int32} (h : ab_inI i (w.2 a) = true) : ab_Run ab_mt 109 9 ls (.int i :: .ref a :: st) w = ab_Run ab_mt 109 10 ls (.int (ab_aI i.toNatClampNeg (w.2 a)) :: st) w := E_iald rfl h
theorem e_109_10 {ls : ab_L} {w : ab_W} {x : Int32} : ab_Run ab_mt 109 10 ls [.int x] w = some (.inl (some (.int x)), w) := E_reti rfl
theorem rv_109 {σ : ab_S} {t : Nat} {x0 : Int32} {x1 : Int32} : ab_recv ab_mt 109 [.ref t, .int x0, .int x1] σ = ab_isO 7 (σ t) := rfl
theorem e_110_0 {ls : ab_L} {st : List Value} {w : ab_W} (h : ab_isR (ls 0) = true) : ab_Run ab_mt 110 0 ls st w = ab_Run ab_mt 110 1 ls (ab_gv (ls 0) :: st) w := E_loadr (n := 1) rfl h
theorem e_110_1 {ls : ab_L} {st : List Value} {w : ab_W} {a : Nat} (h : ab_isF 7 1 (w.2 a) = true) : ab_Run ab_mt 110 1 ls (.ref a :: st) w = ab_Run ab_mt 110 4 ls (ab_fv 1 (w.2 a) :: st) w := E_get rfl h
theorem e_110_4 {ls : ab_L} {st : List Value} {w : ab_W} : ab_Run ab_mt 110 4 ls st w = ab_Run ab_mt 110 6 ls (.int (nI 120) :: st) w := E_push (n := 2) rfl
theorem e_110_6 {ls : ab_L} {st : List Value} {w : ab_W} : ab_Run ab_mt 110 6 ls st w = ab_Run ab_mt 110 7 ls (.int (nI 3) :: st) w := E_push (n := 1) rfl
theorem e_110_7 {ls : ab_L} {st : List Value} {w : ab_W} (h : ab_isI (ls 1) = true) : ab_Run ab_mt 110 7 ls st w = ab_Run ab_mt 110 8 ls (ab_gv (ls 1) :: st) w := E_loadi (n := 1) rfl h
theorem e_110_8 {ls : ab_L} {st : List Value} {w : ab_W} {x y : Int32} : ab_Run ab_mt 110 8 ls (.int y :: .int x :: st) w = ab_Run ab_mt 110 9 ls (.int (x * y) :: st) w := E_ib (f := fun x y => x * y) rfl
theorem e_110_9 {ls : ab_L} {st : List Value} {w : ab_W} {x y : Int32} : ab_Run ab_mt 110 9 ls (.int y :: .int x :: st) w = ab_Run ab_mt 110 10 ls (.int (x + y) :: st) w := E_ib (f := fun x y => x + y) rfl
theorem e_110_10 {ls : ab_L} {st : List Value} {w : ab_W} (h : ab_isI (ls 2) = true) : ab_Run ab_mt 110 10 ls st w = ab_Run ab_mt 110 11 ls (ab_gv (ls 2) :: st) w := E_loadi (n := 1) rfl h
theorem e_110_11 {ls : ab_L} {st : List Value} {w : ab_W} {x y : Int32} : ab_Run ab_mt 110 11 ls (.int y :: .int x :: st) w = ab_Run ab_mt 110 12 ls (.int (x + y) :: st) w := E_ib (f := fun x y => x + y) rfl
theorem e_110_12 {ls : ab_L} {st : List Value} {w : ab_W} {a : Nat} {i : Int32} (h : ab_inI i (w.2 a) = true) : ab_Run ab_mt 110 12 ls (.int i :: .ref a :: st) w = ab_Run ab_mt 110 13 ls (.int (ab_aI i.toNatClampNeg (w.2 a)) :: st) w := E_iald rfl h
theorem e_110_13 {ls : ab_L} {w : ab_W} {x : Int32} : ab_Run ab_mt 110 13 ls [.int x] w = some (.inl (some (.int x)), w) := E_reti rfl
theorem rv_110 {σ : ab_S} {t : Nat} {x0 : Int32} {x1 : Int32} : ab_recv ab_mt 110 [.ref t, .int x0, .int x1] σ = ab_isO 7 (σ t) := rfl
theorem e_111_0 {ls : ab_L} {st : List Value} {w : ab_W} (h : ab_isR (ls 0) = true) : ab_Run ab_mt 111 0 ls st w = ab_Run ab_mt 111 1 ls (ab_gv (ls 0) :: st) w := E_loadr (n := 1) rfl h
theorem e_111_1 {ls : ab_L} {st : List Value} {w : ab_W} {a : Nat} (h : ab_isF 7 1 (w.2 a) = true) : ab_Run ab_mt 111 1 ls (.ref a :: st) w = ab_Run ab_mt 111 4 ls (ab_fv 1 (w.2 a) :: st) w := E_get rfl h
theorem e_111_4 {ls : ab_L} {st : List Value} {w : ab_W} : ab_Run ab_mt 111 4 ls st w = ab_Run ab_mt 111 7 ls (.int (nI 153) :: st) w := E_push (n := 3) rfl
theorem e_111_7 {ls : ab_L} {st : List Value} {w : ab_W} : ab_Run ab_mt 111 7 ls st w = ab_Run ab_mt 111 8 ls (.int (nI 3) :: st) w := E_push (n := 1) rfl
theorem e_111_8 {ls : ab_L} {st : List Value} {w : ab_W} (h : ab_isI (ls 1) = true) : ab_Run ab_mt 111 8 ls st w = ab_Run ab_mt 111 9 ls (ab_gv (ls 1) :: st) w := E_loadi (n := 1) rfl h
theorem e_111_9 {ls : ab_L} {st : List Value} {w : ab_W} {x y : Int32} : ab_Run ab_mt 111 9 ls (.int y :: .int x :: st) w = ab_Run ab_mt 111 10 ls (.int (x * y) :: st) w := E_ib (f := fun x y => x * y) rfl
theorem e_111_10 {ls : ab_L} {st : List Value} {w : ab_W} {x y : Int32} : ab_Run ab_mt 111 10 ls (.int y :: .int x :: st) w = ab_Run ab_mt 111 11 ls (.int (x + y) :: st) w := E_ib (f := fun x y => x + y) rfl
theorem e_111_11 {ls : ab_L} {st : List Value} {w : ab_W} (h : ab_isI (ls 2) = true) : ab_Run ab_mt 111 11 ls st w = ab_Run ab_mt 111 12 ls (ab_gv (ls 2) :: st) w := E_loadi (n := 1) rfl h
theorem e_111_12 {ls : ab_L} {st : List Value} {w : ab_W} {x y : Int32} : ab_Run ab_mt 111 12 ls (.int y :: .int x :: st) w = ab_Run ab_mt 111 13 ls (.int (x + y) :: st) w := E_ib (f := fun x y => x + y) rfl
theorem e_111_13 {ls : ab_L} {st : List Value} {w : ab_W} {a : Nat} {i : Int32} (h : ab_inI i (w.2 a) = true) : ab_Run ab_mt 111 13 ls (.int i :: .ref a :: st) w = ab_Run ab_mt 111 14 ls (.int (ab_aI i.toNatClampNeg (w.2 a)) :: st) w := E_iald rfl h
theorem e_111_14 {ls : ab_L} {w : ab_W} {x : Int32} : ab_Run ab_mt 111 14 ls [.int x] w = some (.inl (some (.int x)), w) := E_reti rfl
theorem rv_111 {σ : ab_S} {t : Nat} {x0 : Int32} {x1 : Int32} : ab_recv ab_mt 111 [.ref t, .int x0, .int x1] σ = ab_isO 7 (σ t) := rfl
theorem e_112_0 {ls : ab_L} {st : List Value} {w : ab_W} (h : ab_isI (ls 1) = true) : ab_Run ab_mt 112 0 ls st w = ab_Run ab_mt 112 1 ls (ab_gv (ls 1) :: st) w := E_loadi (n := 1) rfl h
theorem e_112_1 {ls : ab_L} {st : List Value} {w : ab_W} {x : Int32} : ab_Run ab_mt 112 1 ls (.int x :: st) w = ab_Run ab_mt 112 2 ls (.long x.toInt64 :: st) w := E_i2l rfl
theorem e_112_2 {ls : ab_L} {st : List Value} {w : ab_W} : ab_Run ab_mt 112 2 ls st w = ab_Run ab_mt 112 3 ls (.long (lN 0) :: st) w := E_push (n := 1) rfl
theorem e_112_3 {ls : ab_L} {st : List Value} {w : ab_W} (h : ab_isR (ls 0) = true) : ab_Run ab_mt 112 3 ls st w = ab_Run ab_mt 112 4 ls (ab_gv (ls 0) :: st) w := E_loadr (n := 1) rfl h
theorem e_112_4 {ls : ab_L} {st : List Value} {w : ab_W} {v0 : Value} (h1 : ab_recv ab_mt 108 [v0] w.2 = true) (h8 : ab_w8 st = true) : ab_Run ab_mt 112 4 ls (v0 :: st) w = ab_aft 108 112 4 ls st (ab_Cl 108 [v0] w) := E_call1 rfl h1 h8
theorem e_112_7 {ls : ab_L} {st : List Value} {w : ab_W} : ab_Run ab_mt 112 7 ls st w = ab_Run ab_mt 112 8 ls (.int (nI 1) :: st) w := E_push (n := 1) rfl
theorem e_112_8 {ls : ab_L} {st : List Value} {w : ab_W} {x y : Int32} : ab_Run ab_mt 112 8 ls (.int y :: .int x :: st) w = ab_Run ab_mt 112 9 ls (.int (x - y) :: st) w := E_ib (f := fun x y => x - y) rfl
theorem e_112_9 {ls : ab_L} {st : List Value} {w : ab_W} {x : Int32} : ab_Run ab_mt 112 9 ls (.int x :: st) w = ab_Run ab_mt 112 10 ls (.long x.toInt64 :: st) w := E_i2l rfl
theorem e_112_10 {ls : ab_L} {st : List Value} {w : ab_W} {v0 v1 v2 : Value} (h1 : ab_recv ab_mt 107 [v0, v1, v2] w.2 = true) (h8 : ab_w8 st = true) : ab_Run ab_mt 112 10 ls (v2 :: v1 :: v0 :: st) w = ab_aft 107 112 10 ls st (ab_Cl 107 [v0, v1, v2] w) := E_call3 rfl h1 h8
theorem e_112_13 {ls : ab_L} {w : ab_W} {x : Int32} (h : ab_fitr 2 (.int x) = true) : ab_Run ab_mt 112 13 ls [.int x] w = some (.inl (some (.int x)), w) := E_retz rfl h
theorem rv_112 {σ : ab_S} {t : Nat} {x0 : Int32} : ab_recv ab_mt 112 [.ref t, .int x0] σ = ab_isO 7 (σ t) := rfl
theorem e_113_0 {ls : ab_L} {st : List Value} {w : ab_W} : ab_Run ab_mt 113 0 ls st w = ab_Run ab_mt 113 1 ls (.int (nI 0) :: st) w := E_push (n := 1) rfl
theorem e_113_1 {ls : ab_L} {st : List Value} {w : ab_W} {x : Int32} : ab_Run ab_mt 113 1 ls (.int x :: st) w = ab_Run ab_mt 113 2 (ab_l1 ls 2 (.int x)) st w := E_stori (n := 1) rfl
theorem e_113_2 {ls : ab_L} {st : List Value} {w : ab_W} : ab_Run ab_mt 113 2 ls st w = ab_Run ab_mt 113 3 ls (.int (nI 0) :: st) w := E_push (n := 1) rfl
theorem e_113_3 {ls : ab_L} {st : List Value} {w : ab_W} {x : Int32} : ab_Run ab_mt 113 3 ls (.int x :: st) w = ab_Run ab_mt 113 4 (ab_l1 ls 3 (.int x)) st w := E_stori (n := 1) rfl
theorem e_113_4 {ls : ab_L} {st : List Value} {w : ab_W} (h : ab_isI (ls 3) = true) : ab_Run ab_mt 113 4 ls st w = ab_Run ab_mt 113 5 ls (ab_gv (ls 3) :: st) w := E_loadi (n := 1) rfl h
theorem e_113_5 {ls : ab_L} {st : List Value} {w : ab_W} (h : ab_isI (ls 1) = true) : ab_Run ab_mt 113 5 ls st w = ab_Run ab_mt 113 6 ls (ab_gv (ls 1) :: st) w := E_loadi (n := 1) rfl h
theorem e_113_6 {ls : ab_L} {st : List Value} {w : ab_W} {x y : Int32} : ab_Run ab_mt 113 6 ls (.int y :: .int x :: st) w = if y ≤ x then ab_Run ab_mt 113 24 ls st w else ab_Run ab_mt 113 9 ls st w := E_ic_ge rfl
theorem e_113_9 {ls : ab_L} {st : List Value} {w : ab_W} (h : ab_isI (ls 2) = true) : ab_Run ab_mt 113 9 ls st w = ab_Run ab_mt 113 10 ls (ab_gv (ls 2) :: st) w := E_loadi (n := 1) rfl h
theorem e_113_10 {ls : ab_L} {st : List Value} {w : ab_W} (h : ab_isR (ls 0) = true) : ab_Run ab_mt 113 10 ls st w = ab_Run ab_mt 113 11 ls (ab_gv (ls 0) :: st) w := E_loadr (n := 1) rfl h
theorem e_113_11 {ls : ab_L} {st : List Value} {w : ab_W} (h : ab_isI (ls 3) = true) : ab_Run ab_mt 113 11 ls st w = ab_Run ab_mt 113 12 ls (ab_gv (ls 3) :: st) w := E_loadi (n := 1) rfl h
theorem e_113_12 {ls : ab_L} {st : List Value} {w : ab_W} : ab_Run ab_mt 113 12 ls st w = ab_Run ab_mt 113 13 ls (.int (nI 0) :: st) w := E_push (n := 1) rfl
theorem e_113_13 {ls : ab_L} {st : List Value} {w : ab_W} {v0 v1 v2 : Value} (h1 : ab_recv ab_mt 109 [v0, v1, v2] w.2 = true) (h8 : ab_w8 st = true) : ab_Run ab_mt 113 13 ls (v2 :: v1 :: v0 :: st) w = ab_aft 109 113 13 ls st (ab_Cl 109 [v0, v1, v2] w) := E_call3 rfl h1 h8
theorem e_113_16 {ls : ab_L} {st : List Value} {w : ab_W} {x y : Int32} : ab_Run ab_mt 113 16 ls (.int y :: .int x :: st) w = ab_Run ab_mt 113 17 ls (.int (x + y) :: st) w := E_ib (f := fun x y => x + y) rfl
theorem e_113_17 {ls : ab_L} {st : List Value} {w : ab_W} {x : Int32} : ab_Run ab_mt 113 17 ls (.int x :: st) w = ab_Run ab_mt 113 18 (ab_l1 ls 2 (.int x)) st w := E_stori (n := 1) rfl
theorem e_113_18 {ls : ab_L} {st : List Value} {w : ab_W} (h : ab_isI (ls 3) = true) : ab_Run ab_mt 113 18 ls st w = ab_Run ab_mt 113 21 (ab_l1 ls 3 (.int (ab_gi (ls 3) + (nI 1)))) st w := E_iinc rfl h
theorem e_113_21 {ls : ab_L} {st : List Value} {w : ab_W} : ab_Run ab_mt 113 21 ls st w = ab_Run ab_mt 113 4 ls st w := E_goto rfl
theorem e_113_24 {ls : ab_L} {st : List Value} {w : ab_W} (h : ab_isI (ls 2) = true) : ab_Run ab_mt 113 24 ls st w = ab_Run ab_mt 113 25 ls (ab_gv (ls 2) :: st) w := E_loadi (n := 1) rfl h
theorem e_113_25 {ls : ab_L} {w : ab_W} {x : Int32} : ab_Run ab_mt 113 25 ls [.int x] w = some (.inl (some (.int x)), w) := E_reti rfl
theorem rv_113 {σ : ab_S} {t : Nat} {x0 : Int32} : ab_recv ab_mt 113 [.ref t, .int x0] σ = ab_isO 7 (σ t) := rfl
theorem e_114_0 {ls : ab_L} {st : List Value} {w : ab_W} (h : ab_isR (ls 0) = true) : ab_Run ab_mt 114 0 ls st w = ab_Run ab_mt 114 1 ls (ab_gv (ls 0) :: st) w := E_loadr (n := 1) rfl h
theorem e_114_1 {ls : ab_L} {st : List Value} {w : ab_W} (h : ab_isR (ls 0) = true) : ab_Run ab_mt 114 1 ls st w = ab_Run ab_mt 114 2 ls (ab_gv (ls 0) :: st) w := E_loadr (n := 1) rfl h
theorem e_114_2 {ls : ab_L} {st : List Value} {w : ab_W} {v0 : Value} (h1 : ab_recv ab_mt 108 [v0] w.2 = true) (h8 : ab_w8 st = true) : ab_Run ab_mt 114 2 ls (v0 :: st) w = ab_aft 108 114 2 ls st (ab_Cl 108 [v0] w) := E_call1 rfl h1 h8
theorem e_114_5 {ls : ab_L} {st : List Value} {w : ab_W} {v0 v1 : Value} (h1 : ab_recv ab_mt 113 [v0, v1] w.2 = true) (h8 : ab_w8 st = true) : ab_Run ab_mt 114 5 ls (v1 :: v0 :: st) w = ab_aft 113 114 5 ls st (ab_Cl 113 [v0, v1] w) := E_call2 rfl h1 h8
theorem e_114_8 {ls : ab_L} {w : ab_W} {x : Int32} : ab_Run ab_mt 114 8 ls [.int x] w = some (.inl (some (.int x)), w) := E_reti rfl
theorem rv_114 {σ : ab_S} {t : Nat} : ab_recv ab_mt 114 [.ref t] σ = ab_isO 7 (σ t) := rfl
theorem e_115_0 {ls : ab_L} {st : List Value} {w : ab_W} (h : ab_isI (ls 1) = true) : ab_Run ab_mt 115 0 ls st w = ab_Run ab_mt 115 1 ls (ab_gv (ls 1) :: st) w := E_loadi (n := 1) rfl h
theorem e_115_1 {ls : ab_L} {st : List Value} {w : ab_W} {x : Int32} : ab_Run ab_mt 115 1 ls (.int x :: st) w = ab_Run ab_mt 115 2 ls (.long x.toInt64 :: st) w := E_i2l rfl
theorem e_115_2 {ls : ab_L} {st : List Value} {w : ab_W} : ab_Run ab_mt 115 2 ls st w = ab_Run ab_mt 115 3 ls (.long (lN 0) :: st) w := E_push (n := 1) rfl
theorem e_115_3 {ls : ab_L} {st : List Value} {w : ab_W} (h : ab_isR (ls 0) = true) : ab_Run ab_mt 115 3 ls st w = ab_Run ab_mt 115 4 ls (ab_gv (ls 0) :: st) w := E_loadr (n := 1) rfl h
theorem e_115_4 {ls : ab_L} {st : List Value} {w : ab_W} {v0 : Value} (h1 : ab_recv ab_mt 114 [v0] w.2 = true) (h8 : ab_w8 st = true) : ab_Run ab_mt 115 4 ls (v0 :: st) w = ab_aft 114 115 4 ls st (ab_Cl 114 [v0] w) := E_call1 rfl h1 h8
theorem e_115_7 {ls : ab_L} {st : List Value} {w : ab_W} : ab_Run ab_mt 115 7 ls st w = ab_Run ab_mt 115 8 ls (.int (nI 1) :: st) w := E_push (n := 1) rfl
theorem e_115_8 {ls : ab_L} {st : List Value} {w : ab_W} {x y : Int32} : ab_Run ab_mt 115 8 ls (.int y :: .int x :: st) w = ab_Run ab_mt 115 9 ls (.int (x - y) :: st) w := E_ib (f := fun x y => x - y) rfl
theorem e_115_9 {ls : ab_L} {st : List Value} {w : ab_W} {x : Int32} : ab_Run ab_mt 115 9 ls (.int x :: st) w = ab_Run ab_mt 115 10 ls (.long x.toInt64 :: st) w := E_i2l rfl
theorem e_115_10 {ls : ab_L} {st : List Value} {w : ab_W} {v0 v1 v2 : Value} (h1 : ab_recv ab_mt 107 [v0, v1, v2] w.2 = true) (h8 : ab_w8 st = true) : ab_Run ab_mt 115 10 ls (v2 :: v1 :: v0 :: st) w = ab_aft 107 115 10 ls st (ab_Cl 107 [v0, v1, v2] w) := E_call3 rfl h1 h8
theorem e_115_13 {ls : ab_L} {w : ab_W} {x : Int32} (h : ab_fitr 2 (.int x) = true) : ab_Run ab_mt 115 13 ls [.int x] w = some (.inl (some (.int x)), w) := E_retz rfl h
theorem rv_115 {σ : ab_S} {t : Nat} {x0 : Int32} : ab_recv ab_mt 115 [.ref t, .int x0] σ = ab_isO 7 (σ t) := rfl
theorem e_116_0 {ls : ab_L} {st : List Value} {w : ab_W} : ab_Run ab_mt 116 0 ls st w = ab_Run ab_mt 116 1 ls (.int (nI 0) :: st) w := E_push (n := 1) rfl
theorem e_116_1 {ls : ab_L} {st : List Value} {w : ab_W} {x : Int32} : ab_Run ab_mt 116 1 ls (.int x :: st) w = ab_Run ab_mt 116 3 (ab_l1 ls 5 (.int x)) st w := E_stori (n := 2) rfl
theorem e_116_3 {ls : ab_L} {st : List Value} {w : ab_W} (h : ab_isI (ls 5) = true) : ab_Run ab_mt 116 3 ls st w = ab_Run ab_mt 116 5 ls (ab_gv (ls 5) :: st) w := E_loadi (n := 2) rfl h
theorem e_116_5 {ls : ab_L} {st : List Value} {w : ab_W} : ab_Run ab_mt 116 5 ls st w = ab_Run ab_mt 116 8 ls (.int (nI 193) :: st) w := E_push (n := 3) rfl
theorem e_116_8 {ls : ab_L} {st : List Value} {w : ab_W} {x y : Int32} : ab_Run ab_mt 116 8 ls (.int y :: .int x :: st) w = if y ≤ x then ab_Run ab_mt 116 30 ls st w else ab_Run ab_mt 116 11 ls st w := E_ic_ge rfl
theorem e_116_11 {ls : ab_L} {st : List Value} {w : ab_W} (h : ab_isR (ls 3) = true) : ab_Run ab_mt 116 11 ls st w = ab_Run ab_mt 116 12 ls (ab_gv (ls 3) :: st) w := E_loadr (n := 1) rfl h
theorem e_116_12 {ls : ab_L} {st : List Value} {w : ab_W} (h : ab_isI (ls 4) = true) : ab_Run ab_mt 116 12 ls st w = ab_Run ab_mt 116 14 ls (ab_gv (ls 4) :: st) w := E_loadi (n := 2) rfl h
theorem e_116_14 {ls : ab_L} {st : List Value} {w : ab_W} (h : ab_isI (ls 5) = true) : ab_Run ab_mt 116 14 ls st w = ab_Run ab_mt 116 16 ls (ab_gv (ls 5) :: st) w := E_loadi (n := 2) rfl h
theorem e_116_16 {ls : ab_L} {st : List Value} {w : ab_W} {x y : Int32} : ab_Run ab_mt 116 16 ls (.int y :: .int x :: st) w = ab_Run ab_mt 116 17 ls (.int (x + y) :: st) w := E_ib (f := fun x y => x + y) rfl
theorem e_116_17 {ls : ab_L} {st : List Value} {w : ab_W} (h : ab_isR (ls 1) = true) : ab_Run ab_mt 116 17 ls st w = ab_Run ab_mt 116 18 ls (ab_gv (ls 1) :: st) w := E_loadr (n := 1) rfl h
theorem e_116_18 {ls : ab_L} {st : List Value} {w : ab_W} (h : ab_isI (ls 2) = true) : ab_Run ab_mt 116 18 ls st w = ab_Run ab_mt 116 19 ls (ab_gv (ls 2) :: st) w := E_loadi (n := 1) rfl h
theorem e_116_19 {ls : ab_L} {st : List Value} {w : ab_W} (h : ab_isI (ls 5) = true) : ab_Run ab_mt 116 19 ls st w = ab_Run ab_mt 116 21 ls (ab_gv (ls 5) :: st) w := E_loadi (n := 2) rfl h
theorem e_116_21 {ls : ab_L} {st : List Value} {w : ab_W} {x y : Int32} : ab_Run ab_mt 116 21 ls (.int y :: .int x :: st) w = ab_Run ab_mt 116 22 ls (.int (x + y) :: st) w := E_ib (f := fun x y => x + y) rfl
theorem e_116_22 {ls : ab_L} {st : List Value} {w : ab_W} {a : Nat} {i : Int32} (h : ab_inI i (w.2 a) = true) : ab_Run ab_mt 116 22 ls (.int i :: .ref a :: st) w = ab_Run ab_mt 116 23 ls (.int (ab_aI i.toNatClampNeg (w.2 a)) :: st) w := E_iald rfl h
theorem e_116_23 {ls : ab_L} {st : List Value} {w : ab_W} {a : Nat} {i x : Int32} (h : ab_inW i (w.2 a) = true) : ab_Run ab_mt 116 23 ls (.int x :: .int i :: .ref a :: st) w = ab_Run ab_mt 116 24 ls st (w.1, ab_up w.2 a (ab_sI i.toNatClampNeg x (w.2 a))) := E_iast rfl h
theorem e_116_24 {ls : ab_L} {st : List Value} {w : ab_W} (h : ab_isI (ls 5) = true) : ab_Run ab_mt 116 24 ls st w = ab_Run ab_mt 116 27 (ab_l1 ls 5 (.int (ab_gi (ls 5) + (nI 1)))) st w := E_iinc rfl h
theorem e_116_27 {ls : ab_L} {st : List Value} {w : ab_W} : ab_Run ab_mt 116 27 ls st w = ab_Run ab_mt 116 3 ls st w := E_goto rfl
theorem e_116_30 {ls : ab_L} {w : ab_W} : ab_Run ab_mt 116 30 ls [] w = some (.inl none, w) := E_ret0 rfl
theorem rv_116 {σ : ab_S} {t : Nat} {x0 : Nat} {x1 : Int32} {x2 : Nat} {x3 : Int32} : ab_recv ab_mt 116 [.ref t, .ref x0, .int x1, .ref x2, .int x3] σ = ab_isO 7 (σ t) := rfl
theorem e_117_0 {ls : ab_L} {st : List Value} {w : ab_W} (h : ab_isR (ls 0) = true) : ab_Run ab_mt 117 0 ls st w = ab_Run ab_mt 117 1 ls (ab_gv (ls 0) :: st) w := E_loadr (n := 1) rfl h
theorem e_117_1 {ls : ab_L} {st : List Value} {w : ab_W} {a : Nat} (h : ab_isF 7 3 (w.2 a) = true) : ab_Run ab_mt 117 1 ls (.ref a :: st) w = ab_Run ab_mt 117 4 ls (ab_fv 3 (w.2 a) :: st) w := E_get rfl h
theorem e_117_4 {ls : ab_L} {st : List Value} {w : ab_W} : ab_Run ab_mt 117 4 ls st w = ab_Run ab_mt 117 6 ls (.int (nI 8) :: st) w := E_push (n := 2) rfl
theorem e_117_6 {ls : ab_L} {st : List Value} {w : ab_W} {x y : Int32} : ab_Run ab_mt 117 6 ls (.int y :: .int x :: st) w = if x = y then ab_Run ab_mt 117 9 ls st w else ab_Run ab_mt 117 52 ls st w := E_ic_ne rfl
theorem e_117_9 {ls : ab_L} {st : List Value} {w : ab_W} : ab_Run ab_mt 117 9 ls st w = ab_Run ab_mt 117 12 ls (.int (nI 193) :: st) w := E_push (n := 3) rfl
theorem e_117_12 {ls : ab_L} {st : List Value} {w : ab_W} {x : Int32} : ab_Run ab_mt 117 12 ls (.int x :: st) w = ab_Run ab_mt 117 13 (ab_l1 ls 1 (.int x)) st w := E_stori (n := 1) rfl
theorem e_117_13 {ls : ab_L} {st : List Value} {w : ab_W} (h : ab_isI (ls 1) = true) : ab_Run ab_mt 117 13 ls st w = ab_Run ab_mt 117 14 ls (ab_gv (ls 1) :: st) w := E_loadi (n := 1) rfl h
theorem e_117_14 {ls : ab_L} {st : List Value} {w : ab_W} : ab_Run ab_mt 117 14 ls st w = ab_Run ab_mt 117 17 ls (.int (nI 1544) :: st) w := E_push (n := 3) rfl
theorem e_117_17 {ls : ab_L} {st : List Value} {w : ab_W} {x y : Int32} : ab_Run ab_mt 117 17 ls (.int y :: .int x :: st) w = if y ≤ x then ab_Run ab_mt 117 42 ls st w else ab_Run ab_mt 117 20 ls st w := E_ic_ge rfl
theorem e_117_20 {ls : ab_L} {st : List Value} {w : ab_W} (h : ab_isR (ls 0) = true) : ab_Run ab_mt 117 20 ls st w = ab_Run ab_mt 117 21 ls (ab_gv (ls 0) :: st) w := E_loadr (n := 1) rfl h
theorem e_117_21 {ls : ab_L} {st : List Value} {w : ab_W} {a : Nat} (h : ab_isF 7 4 (w.2 a) = true) : ab_Run ab_mt 117 21 ls (.ref a :: st) w = ab_Run ab_mt 117 24 ls (ab_fv 4 (w.2 a) :: st) w := E_get rfl h
theorem e_117_24 {ls : ab_L} {st : List Value} {w : ab_W} (h : ab_isI (ls 1) = true) : ab_Run ab_mt 117 24 ls st w = ab_Run ab_mt 117 25 ls (ab_gv (ls 1) :: st) w := E_loadi (n := 1) rfl h
theorem e_117_25 {ls : ab_L} {st : List Value} {w : ab_W} : ab_Run ab_mt 117 25 ls st w = ab_Run ab_mt 117 28 ls (.int (nI 193) :: st) w := E_push (n := 3) rfl
theorem e_117_28 {ls : ab_L} {st : List Value} {w : ab_W} {x y : Int32} : ab_Run ab_mt 117 28 ls (.int y :: .int x :: st) w = ab_Run ab_mt 117 29 ls (.int (x - y) :: st) w := E_ib (f := fun x y => x - y) rfl
theorem e_117_29 {ls : ab_L} {st : List Value} {w : ab_W} (h : ab_isR (ls 0) = true) : ab_Run ab_mt 117 29 ls st w = ab_Run ab_mt 117 30 ls (ab_gv (ls 0) :: st) w := E_loadr (n := 1) rfl h
theorem e_117_30 {ls : ab_L} {st : List Value} {w : ab_W} {a : Nat} (h : ab_isF 7 4 (w.2 a) = true) : ab_Run ab_mt 117 30 ls (.ref a :: st) w = ab_Run ab_mt 117 33 ls (ab_fv 4 (w.2 a) :: st) w := E_get rfl h
theorem e_117_33 {ls : ab_L} {st : List Value} {w : ab_W} (h : ab_isI (ls 1) = true) : ab_Run ab_mt 117 33 ls st w = ab_Run ab_mt 117 34 ls (ab_gv (ls 1) :: st) w := E_loadi (n := 1) rfl h
theorem e_117_34 {ls : ab_L} {st : List Value} {w : ab_W} {a : Nat} {i : Int32} (h : ab_inI i (w.2 a) = true) : ab_Run ab_mt 117 34 ls (.int i :: .ref a :: st) w = ab_Run ab_mt 117 35 ls (.int (ab_aI i.toNatClampNeg (w.2 a)) :: st) w := E_iald rfl h
theorem e_117_35 {ls : ab_L} {st : List Value} {w : ab_W} {a : Nat} {i x : Int32} (h : ab_inW i (w.2 a) = true) : ab_Run ab_mt 117 35 ls (.int x :: .int i :: .ref a :: st) w = ab_Run ab_mt 117 36 ls st (w.1, ab_up w.2 a (ab_sI i.toNatClampNeg x (w.2 a))) := E_iast rfl h
theorem e_117_36 {ls : ab_L} {st : List Value} {w : ab_W} (h : ab_isI (ls 1) = true) : ab_Run ab_mt 117 36 ls st w = ab_Run ab_mt 117 39 (ab_l1 ls 1 (.int (ab_gi (ls 1) + (nI 1)))) st w := E_iinc rfl h
theorem e_117_39 {ls : ab_L} {st : List Value} {w : ab_W} : ab_Run ab_mt 117 39 ls st w = ab_Run ab_mt 117 13 ls st w := E_goto rfl
theorem e_117_42 {ls : ab_L} {st : List Value} {w : ab_W} (h : ab_isR (ls 0) = true) : ab_Run ab_mt 117 42 ls st w = ab_Run ab_mt 117 43 ls (ab_gv (ls 0) :: st) w := E_loadr (n := 1) rfl h
theorem e_117_43 {ls : ab_L} {st : List Value} {w : ab_W} {x : Nat} : ab_Run ab_mt 117 43 ls (.ref x :: st) w = ab_Run ab_mt 117 44 ls (.ref x :: .ref x :: st) w := E_dup_r rfl
theorem e_117_44 {ls : ab_L} {st : List Value} {w : ab_W} {a : Nat} (h : ab_isF 7 3 (w.2 a) = true) : ab_Run ab_mt 117 44 ls (.ref a :: st) w = ab_Run ab_mt 117 47 ls (ab_fv 3 (w.2 a) :: st) w := E_get rfl h
theorem e_117_47 {ls : ab_L} {st : List Value} {w : ab_W} : ab_Run ab_mt 117 47 ls st w = ab_Run ab_mt 117 48 ls (.int (nI 1) :: st) w := E_push (n := 1) rfl
theorem e_117_48 {ls : ab_L} {st : List Value} {w : ab_W} {x y : Int32} : ab_Run ab_mt 117 48 ls (.int y :: .int x :: st) w = ab_Run ab_mt 117 49 ls (.int (x - y) :: st) w := E_ib (f := fun x y => x - y) rfl
theorem e_117_49 {ls : ab_L} {st : List Value} {w : ab_W} {a : Nat} {x : Int32} (h : ab_isF 7 3 (w.2 a) = true) : ab_Run ab_mt 117 49 ls (.int x :: .ref a :: st) w = ab_Run ab_mt 117 52 ls st (w.1, ab_up w.2 a (ab_sf 3 (.int x) (w.2 a))) := E_put rfl h rfl
theorem e_117_52 {ls : ab_L} {st : List Value} {w : ab_W} (h : ab_isR (ls 0) = true) : ab_Run ab_mt 117 52 ls st w = ab_Run ab_mt 117 53 ls (ab_gv (ls 0) :: st) w := E_loadr (n := 1) rfl h
theorem e_117_53 {ls : ab_L} {st : List Value} {w : ab_W} (h : ab_isR (ls 0) = true) : ab_Run ab_mt 117 53 ls st w = ab_Run ab_mt 117 54 ls (ab_gv (ls 0) :: st) w := E_loadr (n := 1) rfl h
theorem e_117_54 {ls : ab_L} {st : List Value} {w : ab_W} {a : Nat} (h : ab_isF 7 1 (w.2 a) = true) : ab_Run ab_mt 117 54 ls (.ref a :: st) w = ab_Run ab_mt 117 57 ls (ab_fv 1 (w.2 a) :: st) w := E_get rfl h
theorem e_117_57 {ls : ab_L} {st : List Value} {w : ab_W} : ab_Run ab_mt 117 57 ls st w = ab_Run ab_mt 117 58 ls (.int (nI 0) :: st) w := E_push (n := 1) rfl
theorem e_117_58 {ls : ab_L} {st : List Value} {w : ab_W} (h : ab_isR (ls 0) = true) : ab_Run ab_mt 117 58 ls st w = ab_Run ab_mt 117 59 ls (ab_gv (ls 0) :: st) w := E_loadr (n := 1) rfl h
theorem e_117_59 {ls : ab_L} {st : List Value} {w : ab_W} {a : Nat} (h : ab_isF 7 4 (w.2 a) = true) : ab_Run ab_mt 117 59 ls (.ref a :: st) w = ab_Run ab_mt 117 62 ls (ab_fv 4 (w.2 a) :: st) w := E_get rfl h
theorem e_117_62 {ls : ab_L} {st : List Value} {w : ab_W} : ab_Run ab_mt 117 62 ls st w = ab_Run ab_mt 117 65 ls (.int (nI 193) :: st) w := E_push (n := 3) rfl
theorem e_117_65 {ls : ab_L} {st : List Value} {w : ab_W} (h : ab_isR (ls 0) = true) : ab_Run ab_mt 117 65 ls st w = ab_Run ab_mt 117 66 ls (ab_gv (ls 0) :: st) w := E_loadr (n := 1) rfl h
theorem e_117_66 {ls : ab_L} {st : List Value} {w : ab_W} {a : Nat} (h : ab_isF 7 3 (w.2 a) = true) : ab_Run ab_mt 117 66 ls (.ref a :: st) w = ab_Run ab_mt 117 69 ls (ab_fv 3 (w.2 a) :: st) w := E_get rfl h
theorem e_117_69 {ls : ab_L} {st : List Value} {w : ab_W} {x y : Int32} : ab_Run ab_mt 117 69 ls (.int y :: .int x :: st) w = ab_Run ab_mt 117 70 ls (.int (x * y) :: st) w := E_ib (f := fun x y => x * y) rfl
theorem e_117_70 {ls : ab_L} {st : List Value} {w : ab_W} {v0 v1 v2 v3 v4 : Value} (h1 : ab_recv ab_mt 116 [v0, v1, v2, v3, v4] w.2 = true) (h8 : ab_w8 st = true) : ab_Run ab_mt 117 70 ls (v4 :: v3 :: v2 :: v1 :: v0 :: st) w = ab_aft 116 117 70 ls st (ab_Cl 116 [v0, v1, v2, v3, v4] w) := E_call5 rfl h1 h8
theorem e_117_73 {ls : ab_L} {st : List Value} {w : ab_W} (h : ab_isR (ls 0) = true) : ab_Run ab_mt 117 73 ls st w = ab_Run ab_mt 117 74 ls (ab_gv (ls 0) :: st) w := E_loadr (n := 1) rfl h
theorem e_117_74 {ls : ab_L} {st : List Value} {w : ab_W} {x : Nat} : ab_Run ab_mt 117 74 ls (.ref x :: st) w = ab_Run ab_mt 117 75 ls (.ref x :: .ref x :: st) w := E_dup_r rfl
theorem e_117_75 {ls : ab_L} {st : List Value} {w : ab_W} {a : Nat} (h : ab_isF 7 3 (w.2 a) = true) : ab_Run ab_mt 117 75 ls (.ref a :: st) w = ab_Run ab_mt 117 78 ls (ab_fv 3 (w.2 a) :: st) w := E_get rfl h
theorem e_117_78 {ls : ab_L} {st : List Value} {w : ab_W} : ab_Run ab_mt 117 78 ls st w = ab_Run ab_mt 117 79 ls (.int (nI 1) :: st) w := E_push (n := 1) rfl
theorem e_117_79 {ls : ab_L} {st : List Value} {w : ab_W} {x y : Int32} : ab_Run ab_mt 117 79 ls (.int y :: .int x :: st) w = ab_Run ab_mt 117 80 ls (.int (x + y) :: st) w := E_ib (f := fun x y => x + y) rfl
theorem e_117_80 {ls : ab_L} {st : List Value} {w : ab_W} {a : Nat} {x : Int32} (h : ab_isF 7 3 (w.2 a) = true) : ab_Run ab_mt 117 80 ls (.int x :: .ref a :: st) w = ab_Run ab_mt 117 83 ls st (w.1, ab_up w.2 a (ab_sf 3 (.int x) (w.2 a))) := E_put rfl h rfl
theorem e_117_83 {ls : ab_L} {w : ab_W} : ab_Run ab_mt 117 83 ls [] w = some (.inl none, w) := E_ret0 rfl
theorem rv_117 {σ : ab_S} {t : Nat} : ab_recv ab_mt 117 [.ref t] σ = ab_isO 7 (σ t) := rfl
theorem e_118_0 {ls : ab_L} {st : List Value} {w : ab_W} : ab_Run ab_mt 118 0 ls st w = ab_Run ab_mt 118 1 ls (.int (-1) :: st) w := E_push (n := 1) rfl
theorem e_118_1 {ls : ab_L} {st : List Value} {w : ab_W} {x : Int32} : ab_Run ab_mt 118 1 ls (.int x :: st) w = ab_Run ab_mt 118 2 (ab_l1 ls 2 (.int x)) st w := E_stori (n := 1) rfl
theorem e_118_2 {ls : ab_L} {st : List Value} {w : ab_W} : ab_Run ab_mt 118 2 ls st w = ab_Run ab_mt 118 3 ls (.int (nI 0) :: st) w := E_push (n := 1) rfl
theorem e_118_3 {ls : ab_L} {st : List Value} {w : ab_W} {x : Int32} : ab_Run ab_mt 118 3 ls (.int x :: st) w = ab_Run ab_mt 118 4 (ab_l1 ls 3 (.int x)) st w := E_stori (n := 1) rfl
theorem e_118_4 {ls : ab_L} {st : List Value} {w : ab_W} (h : ab_isI (ls 3) = true) : ab_Run ab_mt 118 4 ls st w = ab_Run ab_mt 118 5 ls (ab_gv (ls 3) :: st) w := E_loadi (n := 1) rfl h
theorem e_118_5 {ls : ab_L} {st : List Value} {w : ab_W} (h : ab_isR (ls 0) = true) : ab_Run ab_mt 118 5 ls st w = ab_Run ab_mt 118 6 ls (ab_gv (ls 0) :: st) w := E_loadr (n := 1) rfl h
theorem e_118_6 {ls : ab_L} {st : List Value} {w : ab_W} {a : Nat} (h : ab_isF 7 1 (w.2 a) = true) : ab_Run ab_mt 118 6 ls (.ref a :: st) w = ab_Run ab_mt 118 9 ls (ab_fv 1 (w.2 a) :: st) w := E_get rfl h
theorem e_118_9 {ls : ab_L} {st : List Value} {w : ab_W} : ab_Run ab_mt 118 9 ls st w = ab_Run ab_mt 118 12 ls (.int (nI 191) :: st) w := E_push (n := 3) rfl
theorem e_118_12 {ls : ab_L} {st : List Value} {w : ab_W} {a : Nat} {i : Int32} (h : ab_inI i (w.2 a) = true) : ab_Run ab_mt 118 12 ls (.int i :: .ref a :: st) w = ab_Run ab_mt 118 13 ls (.int (ab_aI i.toNatClampNeg (w.2 a)) :: st) w := E_iald rfl h
theorem e_118_13 {ls : ab_L} {st : List Value} {w : ab_W} {x y : Int32} : ab_Run ab_mt 118 13 ls (.int y :: .int x :: st) w = if y ≤ x then ab_Run ab_mt 118 38 ls st w else ab_Run ab_mt 118 16 ls st w := E_ic_ge rfl
theorem e_118_16 {ls : ab_L} {st : List Value} {w : ab_W} (h : ab_isR (ls 0) = true) : ab_Run ab_mt 118 16 ls st w = ab_Run ab_mt 118 17 ls (ab_gv (ls 0) :: st) w := E_loadr (n := 1) rfl h
theorem e_118_17 {ls : ab_L} {st : List Value} {w : ab_W} (h : ab_isI (ls 3) = true) : ab_Run ab_mt 118 17 ls st w = ab_Run ab_mt 118 18 ls (ab_gv (ls 3) :: st) w := E_loadi (n := 1) rfl h
theorem e_118_18 {ls : ab_L} {st : List Value} {w : ab_W} : ab_Run ab_mt 118 18 ls st w = ab_Run ab_mt 118 19 ls (.int (nI 0) :: st) w := E_push (n := 1) rfl
theorem e_118_19 {ls : ab_L} {st : List Value} {w : ab_W} {v0 v1 v2 : Value} (h1 : ab_recv ab_mt 110 [v0, v1, v2] w.2 = true) (h8 : ab_w8 st = true) : ab_Run ab_mt 118 19 ls (v2 :: v1 :: v0 :: st) w = ab_aft 110 118 19 ls st (ab_Cl 110 [v0, v1, v2] w) := E_call3 rfl h1 h8
theorem e_118_22 {ls : ab_L} {st : List Value} {w : ab_W} (h : ab_isI (ls 1) = true) : ab_Run ab_mt 118 22 ls st w = ab_Run ab_mt 118 23 ls (ab_gv (ls 1) :: st) w := E_loadi (n := 1) rfl h
theorem e_118_23 {ls : ab_L} {st : List Value} {w : ab_W} {x y : Int32} : ab_Run ab_mt 118 23 ls (.int y :: .int x :: st) w = if y < x then ab_Run ab_mt 118 30 ls st w else ab_Run ab_mt 118 26 ls st w := E_ic_gt rfl
theorem e_118_26 {ls : ab_L} {st : List Value} {w : ab_W} (h : ab_isI (ls 3) = true) : ab_Run ab_mt 118 26 ls st w = ab_Run ab_mt 118 27 ls (ab_gv (ls 3) :: st) w := E_loadi (n := 1) rfl h
theorem e_118_27 {ls : ab_L} {st : List Value} {w : ab_W} : ab_Run ab_mt 118 27 ls st w = ab_Run ab_mt 118 31 ls st w := E_goto rfl
theorem e_118_30 {ls : ab_L} {st : List Value} {w : ab_W} (h : ab_isI (ls 2) = true) : ab_Run ab_mt 118 30 ls st w = ab_Run ab_mt 118 31 ls (ab_gv (ls 2) :: st) w := E_loadi (n := 1) rfl h
theorem e_118_31 {ls : ab_L} {st : List Value} {w : ab_W} {x : Int32} : ab_Run ab_mt 118 31 ls (.int x :: st) w = ab_Run ab_mt 118 32 (ab_l1 ls 2 (.int x)) st w := E_stori (n := 1) rfl
theorem e_118_32 {ls : ab_L} {st : List Value} {w : ab_W} (h : ab_isI (ls 3) = true) : ab_Run ab_mt 118 32 ls st w = ab_Run ab_mt 118 35 (ab_l1 ls 3 (.int (ab_gi (ls 3) + (nI 1)))) st w := E_iinc rfl h
theorem e_118_35 {ls : ab_L} {st : List Value} {w : ab_W} : ab_Run ab_mt 118 35 ls st w = ab_Run ab_mt 118 4 ls st w := E_goto rfl
theorem e_118_38 {ls : ab_L} {st : List Value} {w : ab_W} (h : ab_isI (ls 2) = true) : ab_Run ab_mt 118 38 ls st w = ab_Run ab_mt 118 39 ls (ab_gv (ls 2) :: st) w := E_loadi (n := 1) rfl h
theorem e_118_39 {ls : ab_L} {st : List Value} {w : ab_W} : ab_Run ab_mt 118 39 ls st w = ab_Run ab_mt 118 40 ls (.int (-1) :: st) w := E_push (n := 1) rfl
theorem e_118_40 {ls : ab_L} {st : List Value} {w : ab_W} {x y : Int32} : ab_Run ab_mt 118 40 ls (.int y :: .int x :: st) w = if x = y then ab_Run ab_mt 118 43 ls st w else ab_Run ab_mt 118 47 ls st w := E_ic_ne rfl
theorem e_118_43 {ls : ab_L} {st : List Value} {w : ab_W} : ab_Run ab_mt 118 43 ls st w = ab_Run ab_mt 118 46 ls (.int (nI 1200) :: st) w := E_push (n := 3) rfl
theorem e_118_46 {ls : ab_L} {w : ab_W} {x : Int32} : ab_Run ab_mt 118 46 ls [.int x] w = some (.inl (some (.int x)), w) := E_reti rfl
theorem e_118_47 {ls : ab_L} {st : List Value} {w : ab_W} (h : ab_isR (ls 0) = true) : ab_Run ab_mt 118 47 ls st w = ab_Run ab_mt 118 48 ls (ab_gv (ls 0) :: st) w := E_loadr (n := 1) rfl h
theorem e_118_48 {ls : ab_L} {st : List Value} {w : ab_W} (h : ab_isI (ls 2) = true) : ab_Run ab_mt 118 48 ls st w = ab_Run ab_mt 118 49 ls (ab_gv (ls 2) :: st) w := E_loadi (n := 1) rfl h
theorem e_118_49 {ls : ab_L} {st : List Value} {w : ab_W} : ab_Run ab_mt 118 49 ls st w = ab_Run ab_mt 118 50 ls (.int (nI 1) :: st) w := E_push (n := 1) rfl
theorem e_118_50 {ls : ab_L} {st : List Value} {w : ab_W} {v0 v1 v2 : Value} (h1 : ab_recv ab_mt 110 [v0, v1, v2] w.2 = true) (h8 : ab_w8 st = true) : ab_Run ab_mt 118 50 ls (v2 :: v1 :: v0 :: st) w = ab_aft 110 118 50 ls st (ab_Cl 110 [v0, v1, v2] w) := E_call3 rfl h1 h8
theorem e_118_53 {ls : ab_L} {st : List Value} {w : ab_W} {x : Int32} : ab_Run ab_mt 118 53 ls (.int x :: st) w = ab_Run ab_mt 118 54 (ab_l1 ls 3 (.int x)) st w := E_stori (n := 1) rfl
theorem e_118_54 {ls : ab_L} {st : List Value} {w : ab_W} (h : ab_isR (ls 0) = true) : ab_Run ab_mt 118 54 ls st w = ab_Run ab_mt 118 55 ls (ab_gv (ls 0) :: st) w := E_loadr (n := 1) rfl h
theorem e_118_55 {ls : ab_L} {st : List Value} {w : ab_W} (h : ab_isI (ls 2) = true) : ab_Run ab_mt 118 55 ls st w = ab_Run ab_mt 118 56 ls (ab_gv (ls 2) :: st) w := E_loadi (n := 1) rfl h
theorem e_118_56 {ls : ab_L} {st : List Value} {w : ab_W} : ab_Run ab_mt 118 56 ls st w = ab_Run ab_mt 118 57 ls (.int (nI 2) :: st) w := E_push (n := 1) rfl
theorem e_118_57 {ls : ab_L} {st : List Value} {w : ab_W} {v0 v1 v2 : Value} (h1 : ab_recv ab_mt 110 [v0, v1, v2] w.2 = true) (h8 : ab_w8 st = true) : ab_Run ab_mt 118 57 ls (v2 :: v1 :: v0 :: st) w = ab_aft 110 118 57 ls st (ab_Cl 110 [v0, v1, v2] w) := E_call3 rfl h1 h8
theorem e_118_60 {ls : ab_L} {st : List Value} {w : ab_W} {x : Int32} : ab_Run ab_mt 118 60 ls (.int x :: st) w = if x = 0 then ab_Run ab_mt 118 77 ls st w else ab_Run ab_mt 118 63 ls st w := E_if_eq rfl
theorem e_118_63 {ls : ab_L} {st : List Value} {w : ab_W} (h : ab_isI (ls 2) = true) : ab_Run ab_mt 118 63 ls st w = ab_Run ab_mt 118 64 ls (ab_gv (ls 2) :: st) w := E_loadi (n := 1) rfl h
theorem e_118_64 {ls : ab_L} {st : List Value} {w : ab_W} : ab_Run ab_mt 118 64 ls st w = ab_Run ab_mt 118 65 ls (.int (nI 1) :: st) w := E_push (n := 1) rfl
theorem e_118_65 {ls : ab_L} {st : List Value} {w : ab_W} {x y : Int32} : ab_Run ab_mt 118 65 ls (.int y :: .int x :: st) w = ab_Run ab_mt 118 66 ls (.int (x + y) :: st) w := E_ib (f := fun x y => x + y) rfl
theorem e_118_66 {ls : ab_L} {st : List Value} {w : ab_W} (h : ab_isR (ls 0) = true) : ab_Run ab_mt 118 66 ls st w = ab_Run ab_mt 118 67 ls (ab_gv (ls 0) :: st) w := E_loadr (n := 1) rfl h
theorem e_118_67 {ls : ab_L} {st : List Value} {w : ab_W} {a : Nat} (h : ab_isF 7 1 (w.2 a) = true) : ab_Run ab_mt 118 67 ls (.ref a :: st) w = ab_Run ab_mt 118 70 ls (ab_fv 1 (w.2 a) :: st) w := E_get rfl h
theorem e_118_70 {ls : ab_L} {st : List Value} {w : ab_W} : ab_Run ab_mt 118 70 ls st w = ab_Run ab_mt 118 73 ls (.int (nI 191) :: st) w := E_push (n := 3) rfl
theorem e_118_73 {ls : ab_L} {st : List Value} {w : ab_W} {a : Nat} {i : Int32} (h : ab_inI i (w.2 a) = true) : ab_Run ab_mt 118 73 ls (.int i :: .ref a :: st) w = ab_Run ab_mt 118 74 ls (.int (ab_aI i.toNatClampNeg (w.2 a)) :: st) w := E_iald rfl h
theorem e_118_74 {ls : ab_L} {st : List Value} {w : ab_W} {x y : Int32} : ab_Run ab_mt 118 74 ls (.int y :: .int x :: st) w = if x = y then ab_Run ab_mt 118 77 ls st w else ab_Run ab_mt 118 79 ls st w := E_ic_ne rfl
theorem e_118_77 {ls : ab_L} {st : List Value} {w : ab_W} (h : ab_isI (ls 3) = true) : ab_Run ab_mt 118 77 ls st w = ab_Run ab_mt 118 78 ls (ab_gv (ls 3) :: st) w := E_loadi (n := 1) rfl h
theorem e_118_78 {ls : ab_L} {w : ab_W} {x : Int32} : ab_Run ab_mt 118 78 ls [.int x] w = some (.inl (some (.int x)), w) := E_reti rfl
theorem e_118_79 {ls : ab_L} {st : List Value} {w : ab_W} (h : ab_isR (ls 0) = true) : ab_Run ab_mt 118 79 ls st w = ab_Run ab_mt 118 80 ls (ab_gv (ls 0) :: st) w := E_loadr (n := 1) rfl h
theorem e_118_80 {ls : ab_L} {st : List Value} {w : ab_W} (h : ab_isI (ls 2) = true) : ab_Run ab_mt 118 80 ls st w = ab_Run ab_mt 118 81 ls (ab_gv (ls 2) :: st) w := E_loadi (n := 1) rfl h
theorem e_118_81 {ls : ab_L} {st : List Value} {w : ab_W} : ab_Run ab_mt 118 81 ls st w = ab_Run ab_mt 118 82 ls (.int (nI 0) :: st) w := E_push (n := 1) rfl
theorem e_118_82 {ls : ab_L} {st : List Value} {w : ab_W} {v0 v1 v2 : Value} (h1 : ab_recv ab_mt 110 [v0, v1, v2] w.2 = true) (h8 : ab_w8 st = true) : ab_Run ab_mt 118 82 ls (v2 :: v1 :: v0 :: st) w = ab_aft 110 118 82 ls st (ab_Cl 110 [v0, v1, v2] w) := E_call3 rfl h1 h8
theorem e_118_85 {ls : ab_L} {st : List Value} {w : ab_W} {x : Int32} : ab_Run ab_mt 118 85 ls (.int x :: st) w = ab_Run ab_mt 118 87 (ab_l1 ls 4 (.int x)) st w := E_stori (n := 2) rfl
theorem e_118_87 {ls : ab_L} {st : List Value} {w : ab_W} (h : ab_isI (ls 3) = true) : ab_Run ab_mt 118 87 ls st w = ab_Run ab_mt 118 88 ls (ab_gv (ls 3) :: st) w := E_loadi (n := 1) rfl h
theorem e_118_88 {ls : ab_L} {st : List Value} {w : ab_W} (h : ab_isR (ls 0) = true) : ab_Run ab_mt 118 88 ls st w = ab_Run ab_mt 118 89 ls (ab_gv (ls 0) :: st) w := E_loadr (n := 1) rfl h
theorem e_118_89 {ls : ab_L} {st : List Value} {w : ab_W} (h : ab_isI (ls 2) = true) : ab_Run ab_mt 118 89 ls st w = ab_Run ab_mt 118 90 ls (ab_gv (ls 2) :: st) w := E_loadi (n := 1) rfl h
theorem e_118_90 {ls : ab_L} {st : List Value} {w : ab_W} : ab_Run ab_mt 118 90 ls st w = ab_Run ab_mt 118 91 ls (.int (nI 1) :: st) w := E_push (n := 1) rfl
theorem e_118_91 {ls : ab_L} {st : List Value} {w : ab_W} {x y : Int32} : ab_Run ab_mt 118 91 ls (.int y :: .int x :: st) w = ab_Run ab_mt 118 92 ls (.int (x + y) :: st) w := E_ib (f := fun x y => x + y) rfl
theorem e_118_92 {ls : ab_L} {st : List Value} {w : ab_W} : ab_Run ab_mt 118 92 ls st w = ab_Run ab_mt 118 93 ls (.int (nI 1) :: st) w := E_push (n := 1) rfl
theorem e_118_93 {ls : ab_L} {st : List Value} {w : ab_W} {v0 v1 v2 : Value} (h1 : ab_recv ab_mt 110 [v0, v1, v2] w.2 = true) (h8 : ab_w8 st = true) : ab_Run ab_mt 118 93 ls (v2 :: v1 :: v0 :: st) w = ab_aft 110 118 93 ls st (ab_Cl 110 [v0, v1, v2] w) := E_call3 rfl h1 h8
theorem e_118_96 {ls : ab_L} {st : List Value} {w : ab_W} (h : ab_isI (ls 3) = true) : ab_Run ab_mt 118 96 ls st w = ab_Run ab_mt 118 97 ls (ab_gv (ls 3) :: st) w := E_loadi (n := 1) rfl h
theorem e_118_97 {ls : ab_L} {st : List Value} {w : ab_W} {x y : Int32} : ab_Run ab_mt 118 97 ls (.int y :: .int x :: st) w = ab_Run ab_mt 118 98 ls (.int (x - y) :: st) w := E_ib (f := fun x y => x - y) rfl
theorem e_118_98 {ls : ab_L} {st : List Value} {w : ab_W} (h : ab_isI (ls 1) = true) : ab_Run ab_mt 118 98 ls st w = ab_Run ab_mt 118 99 ls (ab_gv (ls 1) :: st) w := E_loadi (n := 1) rfl h
theorem e_118_99 {ls : ab_L} {st : List Value} {w : ab_W} (h : ab_isI (ls 4) = true) : ab_Run ab_mt 118 99 ls st w = ab_Run ab_mt 118 101 ls (ab_gv (ls 4) :: st) w := E_loadi (n := 2) rfl h
theorem e_118_101 {ls : ab_L} {st : List Value} {w : ab_W} {x y : Int32} : ab_Run ab_mt 118 101 ls (.int y :: .int x :: st) w = ab_Run ab_mt 118 102 ls (.int (x - y) :: st) w := E_ib (f := fun x y => x - y) rfl
theorem e_118_102 {ls : ab_L} {st : List Value} {w : ab_W} {x y : Int32} : ab_Run ab_mt 118 102 ls (.int y :: .int x :: st) w = ab_Run ab_mt 118 103 ls (.int (x * y) :: st) w := E_ib (f := fun x y => x * y) rfl
theorem e_118_103 {ls : ab_L} {st : List Value} {w : ab_W} (h : ab_isR (ls 0) = true) : ab_Run ab_mt 118 103 ls st w = ab_Run ab_mt 118 104 ls (ab_gv (ls 0) :: st) w := E_loadr (n := 1) rfl h
theorem e_118_104 {ls : ab_L} {st : List Value} {w : ab_W} (h : ab_isI (ls 2) = true) : ab_Run ab_mt 118 104 ls st w = ab_Run ab_mt 118 105 ls (ab_gv (ls 2) :: st) w := E_loadi (n := 1) rfl h
theorem e_118_105 {ls : ab_L} {st : List Value} {w : ab_W} : ab_Run ab_mt 118 105 ls st w = ab_Run ab_mt 118 106 ls (.int (nI 1) :: st) w := E_push (n := 1) rfl
theorem e_118_106 {ls : ab_L} {st : List Value} {w : ab_W} {x y : Int32} : ab_Run ab_mt 118 106 ls (.int y :: .int x :: st) w = ab_Run ab_mt 118 107 ls (.int (x + y) :: st) w := E_ib (f := fun x y => x + y) rfl
theorem e_118_107 {ls : ab_L} {st : List Value} {w : ab_W} : ab_Run ab_mt 118 107 ls st w = ab_Run ab_mt 118 108 ls (.int (nI 0) :: st) w := E_push (n := 1) rfl
theorem e_118_108 {ls : ab_L} {st : List Value} {w : ab_W} {v0 v1 v2 : Value} (h1 : ab_recv ab_mt 110 [v0, v1, v2] w.2 = true) (h8 : ab_w8 st = true) : ab_Run ab_mt 118 108 ls (v2 :: v1 :: v0 :: st) w = ab_aft 110 118 108 ls st (ab_Cl 110 [v0, v1, v2] w) := E_call3 rfl h1 h8
theorem e_118_111 {ls : ab_L} {st : List Value} {w : ab_W} (h : ab_isI (ls 4) = true) : ab_Run ab_mt 118 111 ls st w = ab_Run ab_mt 118 113 ls (ab_gv (ls 4) :: st) w := E_loadi (n := 2) rfl h
theorem e_118_113 {ls : ab_L} {st : List Value} {w : ab_W} {x y : Int32} : ab_Run ab_mt 118 113 ls (.int y :: .int x :: st) w = ab_Run ab_mt 118 114 ls (.int (x - y) :: st) w := E_ib (f := fun x y => x - y) rfl
theorem e_118_114 {ls : ab_L} {st : List Value} {w : ab_W} {x y : Int32} (h : ¬ y = 0) : ab_Run ab_mt 118 114 ls (.int y :: .int x :: st) w = ab_Run ab_mt 118 115 ls (.int (x / y) :: st) w := E_idv (f := fun x y => x / y) rfl h
theorem e_118_115 {ls : ab_L} {st : List Value} {w : ab_W} {x y : Int32} : ab_Run ab_mt 118 115 ls (.int y :: .int x :: st) w = ab_Run ab_mt 118 116 ls (.int (x + y) :: st) w := E_ib (f := fun x y => x + y) rfl
theorem e_118_116 {ls : ab_L} {w : ab_W} {x : Int32} : ab_Run ab_mt 118 116 ls [.int x] w = some (.inl (some (.int x)), w) := E_reti rfl
theorem rv_118 {σ : ab_S} {t : Nat} {x0 : Int32} : ab_recv ab_mt 118 [.ref t, .int x0] σ = ab_isO 7 (σ t) := rfl
theorem e_119_0 {ls : ab_L} {st : List Value} {w : ab_W} : ab_Run ab_mt 119 0 ls st w = ab_Run ab_mt 119 3 ls (.long (lN 600000000) :: st) w := E_push (n := 3) rfl
theorem e_119_3 {ls : ab_L} {st : List Value} {w : ab_W} (h : ab_isR (ls 0) = true) : ab_Run ab_mt 119 3 ls st w = ab_Run ab_mt 119 4 ls (ab_gv (ls 0) :: st) w := E_loadr (n := 1) rfl h
theorem e_119_4 {ls : ab_L} {st : List Value} {w : ab_W} (h : ab_isI (ls 1) = true) : ab_Run ab_mt 119 4 ls st w = ab_Run ab_mt 119 5 ls (ab_gv (ls 1) :: st) w := E_loadi (n := 1) rfl h
theorem e_119_5 {ls : ab_L} {st : List Value} {w : ab_W} {v0 v1 : Value} (h1 : ab_recv ab_mt 118 [v0, v1] w.2 = true) (h8 : ab_w8 st = true) : ab_Run ab_mt 119 5 ls (v1 :: v0 :: st) w = ab_aft 118 119 5 ls st (ab_Cl 118 [v0, v1] w) := E_call2 rfl h1 h8
theorem e_119_8 {ls : ab_L} {st : List Value} {w : ab_W} {x : Int32} : ab_Run ab_mt 119 8 ls (.int x :: st) w = ab_Run ab_mt 119 9 ls (.long x.toInt64 :: st) w := E_i2l rfl
theorem e_119_9 {ls : ab_L} {st : List Value} {w : ab_W} {x y : Int64} (h : ¬ y = 0) : ab_Run ab_mt 119 9 ls (.long y :: .long x :: st) w = ab_Run ab_mt 119 10 ls (.long (x / y) :: st) w := E_ldv (f := fun x y => x / y) rfl h
theorem e_119_10 {ls : ab_L} {w : ab_W} {x : Int64} : ab_Run ab_mt 119 10 ls [.long x] w = some (.inl (some (.long x)), w) := E_retl rfl
theorem rv_119 {σ : ab_S} {t : Nat} {x0 : Int32} : ab_recv ab_mt 119 [.ref t, .int x0] σ = ab_isO 7 (σ t) := rfl
theorem e_120_0 {ls : ab_L} {st : List Value} {w : ab_W} : ab_Run ab_mt 120 0 ls st w = ab_Run ab_mt 120 1 ls (.long (lN 0) :: st) w := E_push (n := 1) rfl
theorem e_120_1 {ls : ab_L} {st : List Value} {w : ab_W} {x : Int64} : ab_Run ab_mt 120 1 ls (.long x :: st) w = ab_Run ab_mt 120 2 (ab_l2 ls 3 (.long x)) st w := E_storl (n := 1) rfl
theorem e_120_2 {ls : ab_L} {st : List Value} {w : ab_W} : ab_Run ab_mt 120 2 ls st w = ab_Run ab_mt 120 3 ls (.int (nI 0) :: st) w := E_push (n := 1) rfl
theorem e_120_3 {ls : ab_L} {st : List Value} {w : ab_W} {x : Int32} : ab_Run ab_mt 120 3 ls (.int x :: st) w = ab_Run ab_mt 120 5 (ab_l1 ls 5 (.int x)) st w := E_stori (n := 2) rfl
theorem e_120_5 {ls : ab_L} {st : List Value} {w : ab_W} (h : ab_isI (ls 5) = true) : ab_Run ab_mt 120 5 ls st w = ab_Run ab_mt 120 7 ls (ab_gv (ls 5) :: st) w := E_loadi (n := 2) rfl h
theorem e_120_7 {ls : ab_L} {st : List Value} {w : ab_W} (h : ab_isI (ls 2) = true) : ab_Run ab_mt 120 7 ls st w = ab_Run ab_mt 120 8 ls (ab_gv (ls 2) :: st) w := E_loadi (n := 1) rfl h
theorem e_120_8 {ls : ab_L} {st : List Value} {w : ab_W} {x y : Int32} : ab_Run ab_mt 120 8 ls (.int y :: .int x :: st) w = if y ≤ x then ab_Run ab_mt 120 28 ls st w else ab_Run ab_mt 120 11 ls st w := E_ic_ge rfl
theorem e_120_11 {ls : ab_L} {st : List Value} {w : ab_W} (h : ab_isL (ls 3) = true) (h2 : (ls 4).isNone = true) : ab_Run ab_mt 120 11 ls st w = ab_Run ab_mt 120 12 ls (ab_gv (ls 3) :: st) w := E_loadl (n := 1) rfl h h2
theorem e_120_12 {ls : ab_L} {st : List Value} {w : ab_W} (h : ab_isR (ls 0) = true) : ab_Run ab_mt 120 12 ls st w = ab_Run ab_mt 120 13 ls (ab_gv (ls 0) :: st) w := E_loadr (n := 1) rfl h
theorem e_120_13 {ls : ab_L} {st : List Value} {w : ab_W} (h : ab_isI (ls 1) = true) : ab_Run ab_mt 120 13 ls st w = ab_Run ab_mt 120 14 ls (ab_gv (ls 1) :: st) w := E_loadi (n := 1) rfl h
theorem e_120_14 {ls : ab_L} {st : List Value} {w : ab_W} (h : ab_isI (ls 5) = true) : ab_Run ab_mt 120 14 ls st w = ab_Run ab_mt 120 16 ls (ab_gv (ls 5) :: st) w := E_loadi (n := 2) rfl h
theorem e_120_16 {ls : ab_L} {st : List Value} {w : ab_W} {x y : Int32} : ab_Run ab_mt 120 16 ls (.int y :: .int x :: st) w = ab_Run ab_mt 120 17 ls (.int (x + y) :: st) w := E_ib (f := fun x y => x + y) rfl
theorem e_120_17 {ls : ab_L} {st : List Value} {w : ab_W} {v0 v1 : Value} (h1 : ab_recv ab_mt 119 [v0, v1] w.2 = true) (h8 : ab_w8 st = true) : ab_Run ab_mt 120 17 ls (v1 :: v0 :: st) w = ab_aft 119 120 17 ls st (ab_Cl 119 [v0, v1] w) := E_call2 rfl h1 h8
theorem e_120_20 {ls : ab_L} {st : List Value} {w : ab_W} {x y : Int64} : ab_Run ab_mt 120 20 ls (.long y :: .long x :: st) w = ab_Run ab_mt 120 21 ls (.long (x + y) :: st) w := E_lb (f := fun x y => x + y) rfl
theorem e_120_21 {ls : ab_L} {st : List Value} {w : ab_W} {x : Int64} : ab_Run ab_mt 120 21 ls (.long x :: st) w = ab_Run ab_mt 120 22 (ab_l2 ls 3 (.long x)) st w := E_storl (n := 1) rfl
theorem e_120_22 {ls : ab_L} {st : List Value} {w : ab_W} (h : ab_isI (ls 5) = true) : ab_Run ab_mt 120 22 ls st w = ab_Run ab_mt 120 25 (ab_l1 ls 5 (.int (ab_gi (ls 5) + (nI 1)))) st w := E_iinc rfl h
theorem e_120_25 {ls : ab_L} {st : List Value} {w : ab_W} : ab_Run ab_mt 120 25 ls st w = ab_Run ab_mt 120 5 ls st w := E_goto rfl
theorem e_120_28 {ls : ab_L} {st : List Value} {w : ab_W} (h : ab_isL (ls 3) = true) (h2 : (ls 4).isNone = true) : ab_Run ab_mt 120 28 ls st w = ab_Run ab_mt 120 29 ls (ab_gv (ls 3) :: st) w := E_loadl (n := 1) rfl h h2
theorem e_120_29 {ls : ab_L} {w : ab_W} {x : Int64} : ab_Run ab_mt 120 29 ls [.long x] w = some (.inl (some (.long x)), w) := E_retl rfl
theorem rv_120 {σ : ab_S} {t : Nat} {x0 : Int32} {x1 : Int32} : ab_recv ab_mt 120 [.ref t, .int x0, .int x1] σ = ab_isO 7 (σ t) := rfl
theorem e_121_0 {ls : ab_L} {st : List Value} {w : ab_W} (h : ab_isR (ls 0) = true) : ab_Run ab_mt 121 0 ls st w = ab_Run ab_mt 121 1 ls (ab_gv (ls 0) :: st) w := E_loadr (n := 1) rfl h
theorem e_121_1 {ls : ab_L} {st : List Value} {w : ab_W} (h : ab_isI (ls 2) = true) : ab_Run ab_mt 121 1 ls st w = ab_Run ab_mt 121 2 ls (ab_gv (ls 2) :: st) w := E_loadi (n := 1) rfl h
theorem e_121_2 {ls : ab_L} {st : List Value} {w : ab_W} (h : ab_isI (ls 3) = true) : ab_Run ab_mt 121 2 ls st w = ab_Run ab_mt 121 3 ls (ab_gv (ls 3) :: st) w := E_loadi (n := 1) rfl h
theorem e_121_3 {ls : ab_L} {st : List Value} {w : ab_W} {v0 v1 v2 : Value} (h1 : ab_recv ab_mt 120 [v0, v1, v2] w.2 = true) (h8 : ab_w8 st = true) : ab_Run ab_mt 121 3 ls (v2 :: v1 :: v0 :: st) w = ab_aft 120 121 3 ls st (ab_Cl 120 [v0, v1, v2] w) := E_call3 rfl h1 h8
theorem e_121_6 {ls : ab_L} {st : List Value} {w : ab_W} {x : Int64} : ab_Run ab_mt 121 6 ls (.long x :: st) w = ab_Run ab_mt 121 8 (ab_l2 ls 4 (.long x)) st w := E_storl (n := 2) rfl
theorem e_121_8 {ls : ab_L} {st : List Value} {w : ab_W} : ab_Run ab_mt 121 8 ls st w = ab_Run ab_mt 121 11 ls (.long (lN 1000) :: st) w := E_push (n := 3) rfl
theorem e_121_11 {ls : ab_L} {st : List Value} {w : ab_W} (h : ab_isR (ls 0) = true) : ab_Run ab_mt 121 11 ls st w = ab_Run ab_mt 121 12 ls (ab_gv (ls 0) :: st) w := E_loadr (n := 1) rfl h
theorem e_121_12 {ls : ab_L} {st : List Value} {w : ab_W} (h : ab_isI (ls 1) = true) : ab_Run ab_mt 121 12 ls st w = ab_Run ab_mt 121 13 ls (ab_gv (ls 1) :: st) w := E_loadi (n := 1) rfl h
theorem e_121_13 {ls : ab_L} {st : List Value} {w : ab_W} : ab_Run ab_mt 121 13 ls st w = ab_Run ab_mt 121 14 ls (.int (nI 2) :: st) w := E_push (n := 1) rfl
theorem e_121_14 {ls : ab_L} {st : List Value} {w : ab_W} {v0 v1 v2 : Value} (h1 : ab_recv ab_mt 109 [v0, v1, v2] w.2 = true) (h8 : ab_w8 st = true) : ab_Run ab_mt 121 14 ls (v2 :: v1 :: v0 :: st) w = ab_aft 109 121 14 ls st (ab_Cl 109 [v0, v1, v2] w) := E_call3 rfl h1 h8
theorem e_121_17 {ls : ab_L} {st : List Value} {w : ab_W} {x : Int32} : ab_Run ab_mt 121 17 ls (.int x :: st) w = ab_Run ab_mt 121 18 ls (.long x.toInt64 :: st) w := E_i2l rfl
theorem e_121_18 {ls : ab_L} {st : List Value} {w : ab_W} {x y : Int64} : ab_Run ab_mt 121 18 ls (.long y :: .long x :: st) w = ab_Run ab_mt 121 19 ls (.long (x * y) :: st) w := E_lb (f := fun x y => x * y) rfl
theorem e_121_19 {ls : ab_L} {st : List Value} {w : ab_W} {x : Int64} : ab_Run ab_mt 121 19 ls (.long x :: st) w = ab_Run ab_mt 121 21 (ab_l2 ls 6 (.long x)) st w := E_storl (n := 2) rfl
theorem e_121_21 {ls : ab_L} {st : List Value} {w : ab_W} (h : ab_isL (ls 6) = true) (h2 : (ls 7).isNone = true) : ab_Run ab_mt 121 21 ls st w = ab_Run ab_mt 121 23 ls (ab_gv (ls 6) :: st) w := E_loadl (n := 2) rfl h h2
theorem e_121_23 {ls : ab_L} {st : List Value} {w : ab_W} : ab_Run ab_mt 121 23 ls st w = ab_Run ab_mt 121 24 ls (.long (lN 0) :: st) w := E_push (n := 1) rfl
theorem e_121_24 {ls : ab_L} {st : List Value} {w : ab_W} {x y : Int64} : ab_Run ab_mt 121 24 ls (.long y :: .long x :: st) w = ab_Run ab_mt 121 25 ls (.int (lg_cmp x y) :: st) w := E_lcmp rfl
theorem e_121_25 {ls : ab_L} {st : List Value} {w : ab_W} {x : Int32} : ab_Run ab_mt 121 25 ls (.int x :: st) w = if x = 0 then ab_Run ab_mt 121 28 ls st w else ab_Run ab_mt 121 33 ls st w := E_if_ne rfl
theorem e_121_28 {ls : ab_L} {st : List Value} {w : ab_W} (h : ab_isL (ls 4) = true) (h2 : (ls 5).isNone = true) : ab_Run ab_mt 121 28 ls st w = ab_Run ab_mt 121 30 ls (ab_gv (ls 4) :: st) w := E_loadl (n := 2) rfl h h2
theorem e_121_30 {ls : ab_L} {st : List Value} {w : ab_W} : ab_Run ab_mt 121 30 ls st w = ab_Run ab_mt 121 50 ls st w := E_goto rfl
theorem e_121_33 {ls : ab_L} {st : List Value} {w : ab_W} (h : ab_isL (ls 6) = true) (h2 : (ls 7).isNone = true) : ab_Run ab_mt 121 33 ls st w = ab_Run ab_mt 121 35 ls (ab_gv (ls 6) :: st) w := E_loadl (n := 2) rfl h h2
theorem e_121_35 {ls : ab_L} {st : List Value} {w : ab_W} (h : ab_isL (ls 4) = true) (h2 : (ls 5).isNone = true) : ab_Run ab_mt 121 35 ls st w = ab_Run ab_mt 121 37 ls (ab_gv (ls 4) :: st) w := E_loadl (n := 2) rfl h h2
theorem e_121_37 {ls : ab_L} {st : List Value} {w : ab_W} {x y : Int64} : ab_Run ab_mt 121 37 ls (.long y :: .long x :: st) w = ab_Run ab_mt 121 38 ls (.long (x * y) :: st) w := E_lb (f := fun x y => x * y) rfl
theorem e_121_38 {ls : ab_L} {st : List Value} {w : ab_W} (h : ab_isR (ls 0) = true) : ab_Run ab_mt 121 38 ls st w = ab_Run ab_mt 121 39 ls (ab_gv (ls 0) :: st) w := E_loadr (n := 1) rfl h
theorem e_121_39 {ls : ab_L} {st : List Value} {w : ab_W} (h : ab_isI (ls 2) = true) : ab_Run ab_mt 121 39 ls st w = ab_Run ab_mt 121 40 ls (ab_gv (ls 2) :: st) w := E_loadi (n := 1) rfl h
theorem e_121_40 {ls : ab_L} {st : List Value} {w : ab_W} (h : ab_isR (ls 0) = true) : ab_Run ab_mt 121 40 ls st w = ab_Run ab_mt 121 41 ls (ab_gv (ls 0) :: st) w := E_loadr (n := 1) rfl h
theorem e_121_41 {ls : ab_L} {st : List Value} {w : ab_W} (h : ab_isI (ls 1) = true) : ab_Run ab_mt 121 41 ls st w = ab_Run ab_mt 121 42 ls (ab_gv (ls 1) :: st) w := E_loadi (n := 1) rfl h
theorem e_121_42 {ls : ab_L} {st : List Value} {w : ab_W} : ab_Run ab_mt 121 42 ls st w = ab_Run ab_mt 121 43 ls (.int (nI 0) :: st) w := E_push (n := 1) rfl
theorem e_121_43 {ls : ab_L} {st : List Value} {w : ab_W} {v0 v1 v2 : Value} (h1 : ab_recv ab_mt 109 [v0, v1, v2] w.2 = true) (h8 : ab_w8 st = true) : ab_Run ab_mt 121 43 ls (v2 :: v1 :: v0 :: st) w = ab_aft 109 121 43 ls st (ab_Cl 109 [v0, v1, v2] w) := E_call3 rfl h1 h8
theorem e_121_46 {ls : ab_L} {st : List Value} {w : ab_W} {v0 v1 v2 : Value} (h1 : ab_recv ab_mt 120 [v0, v1, v2] w.2 = true) (h8 : ab_w8 st = true) : ab_Run ab_mt 121 46 ls (v2 :: v1 :: v0 :: st) w = ab_aft 120 121 46 ls st (ab_Cl 120 [v0, v1, v2] w) := E_call3 rfl h1 h8
theorem e_121_49 {ls : ab_L} {st : List Value} {w : ab_W} {x y : Int64} (h : ¬ y = 0) : ab_Run ab_mt 121 49 ls (.long y :: .long x :: st) w = ab_Run ab_mt 121 50 ls (.long (x / y) :: st) w := E_ldv (f := fun x y => x / y) rfl h
theorem e_121_50 {ls : ab_L} {w : ab_W} {x : Int64} : ab_Run ab_mt 121 50 ls [.long x] w = some (.inl (some (.long x)), w) := E_retl rfl
theorem rv_121 {σ : ab_S} {t : Nat} {x0 : Int32} {x1 : Int32} {x2 : Int32} : ab_recv ab_mt 121 [.ref t, .int x0, .int x1, .int x2] σ = ab_isO 7 (σ t) := rfl
theorem e_122_0 {ls : ab_L} {st : List Value} {w : ab_W} : ab_Run ab_mt 122 0 ls st w = ab_Run ab_mt 122 1 ls (.long (lN 0) :: st) w := E_push (n := 1) rfl
theorem e_122_1 {ls : ab_L} {st : List Value} {w : ab_W} {x : Int64} : ab_Run ab_mt 122 1 ls (.long x :: st) w = ab_Run ab_mt 122 2 (ab_l2 ls 1 (.long x)) st w := E_storl (n := 1) rfl
theorem e_122_2 {ls : ab_L} {st : List Value} {w : ab_W} : ab_Run ab_mt 122 2 ls st w = ab_Run ab_mt 122 3 ls (.int (nI 0) :: st) w := E_push (n := 1) rfl
theorem e_122_3 {ls : ab_L} {st : List Value} {w : ab_W} {x : Int32} : ab_Run ab_mt 122 3 ls (.int x :: st) w = ab_Run ab_mt 122 4 (ab_l1 ls 3 (.int x)) st w := E_stori (n := 1) rfl
theorem e_122_4 {ls : ab_L} {st : List Value} {w : ab_W} : ab_Run ab_mt 122 4 ls st w = ab_Run ab_mt 122 5 ls (.int (nI 0) :: st) w := E_push (n := 1) rfl
theorem e_122_5 {ls : ab_L} {st : List Value} {w : ab_W} {x : Int32} : ab_Run ab_mt 122 5 ls (.int x :: st) w = ab_Run ab_mt 122 7 (ab_l1 ls 4 (.int x)) st w := E_stori (n := 2) rfl
theorem e_122_7 {ls : ab_L} {st : List Value} {w : ab_W} (h : ab_isI (ls 4) = true) : ab_Run ab_mt 122 7 ls st w = ab_Run ab_mt 122 9 ls (ab_gv (ls 4) :: st) w := E_loadi (n := 2) rfl h
theorem e_122_9 {ls : ab_L} {st : List Value} {w : ab_W} (h : ab_isR (ls 0) = true) : ab_Run ab_mt 122 9 ls st w = ab_Run ab_mt 122 10 ls (ab_gv (ls 0) :: st) w := E_loadr (n := 1) rfl h
theorem e_122_10 {ls : ab_L} {st : List Value} {w : ab_W} {v0 : Value} (h1 : ab_recv ab_mt 108 [v0] w.2 = true) (h8 : ab_w8 st = true) : ab_Run ab_mt 122 10 ls (v0 :: st) w = ab_aft 108 122 10 ls st (ab_Cl 108 [v0] w) := E_call1 rfl h1 h8
theorem e_122_13 {ls : ab_L} {st : List Value} {w : ab_W} {x y : Int32} : ab_Run ab_mt 122 13 ls (.int y :: .int x :: st) w = if y ≤ x then ab_Run ab_mt 122 138 ls st w else ab_Run ab_mt 122 16 ls st w := E_ic_ge rfl
theorem e_122_16 {ls : ab_L} {st : List Value} {w : ab_W} (h : ab_isR (ls 0) = true) : ab_Run ab_mt 122 16 ls st w = ab_Run ab_mt 122 17 ls (ab_gv (ls 0) :: st) w := E_loadr (n := 1) rfl h
theorem e_122_17 {ls : ab_L} {st : List Value} {w : ab_W} (h : ab_isI (ls 4) = true) : ab_Run ab_mt 122 17 ls st w = ab_Run ab_mt 122 19 ls (ab_gv (ls 4) :: st) w := E_loadi (n := 2) rfl h
theorem e_122_19 {ls : ab_L} {st : List Value} {w : ab_W} : ab_Run ab_mt 122 19 ls st w = ab_Run ab_mt 122 20 ls (.int (nI 0) :: st) w := E_push (n := 1) rfl
theorem e_122_20 {ls : ab_L} {st : List Value} {w : ab_W} {v0 v1 v2 : Value} (h1 : ab_recv ab_mt 109 [v0, v1, v2] w.2 = true) (h8 : ab_w8 st = true) : ab_Run ab_mt 122 20 ls (v2 :: v1 :: v0 :: st) w = ab_aft 109 122 20 ls st (ab_Cl 109 [v0, v1, v2] w) := E_call3 rfl h1 h8
theorem e_122_23 {ls : ab_L} {st : List Value} {w : ab_W} {x : Int32} : ab_Run ab_mt 122 23 ls (.int x :: st) w = ab_Run ab_mt 122 25 (ab_l1 ls 5 (.int x)) st w := E_stori (n := 2) rfl
theorem e_122_25 {ls : ab_L} {st : List Value} {w : ab_W} : ab_Run ab_mt 122 25 ls st w = ab_Run ab_mt 122 26 ls (.int (nI 0) :: st) w := E_push (n := 1) rfl
theorem e_122_26 {ls : ab_L} {st : List Value} {w : ab_W} {x : Int32} : ab_Run ab_mt 122 26 ls (.int x :: st) w = ab_Run ab_mt 122 28 (ab_l1 ls 6 (.int x)) st w := E_stori (n := 2) rfl
theorem e_122_28 {ls : ab_L} {st : List Value} {w : ab_W} (h : ab_isI (ls 6) = true) : ab_Run ab_mt 122 28 ls st w = ab_Run ab_mt 122 30 ls (ab_gv (ls 6) :: st) w := E_loadi (n := 2) rfl h
theorem e_122_30 {ls : ab_L} {st : List Value} {w : ab_W} (h : ab_isI (ls 5) = true) : ab_Run ab_mt 122 30 ls st w = ab_Run ab_mt 122 32 ls (ab_gv (ls 5) :: st) w := E_loadi (n := 2) rfl h
theorem e_122_32 {ls : ab_L} {st : List Value} {w : ab_W} {x y : Int32} : ab_Run ab_mt 122 32 ls (.int y :: .int x :: st) w = if y ≤ x then ab_Run ab_mt 122 102 ls st w else ab_Run ab_mt 122 35 ls st w := E_ic_ge rfl
theorem e_122_35 {ls : ab_L} {st : List Value} {w : ab_W} (h : ab_isR (ls 0) = true) : ab_Run ab_mt 122 35 ls st w = ab_Run ab_mt 122 36 ls (ab_gv (ls 0) :: st) w := E_loadr (n := 1) rfl h
theorem e_122_36 {ls : ab_L} {st : List Value} {w : ab_W} {a : Nat} (h : ab_isF 7 14 (w.2 a) = true) : ab_Run ab_mt 122 36 ls (.ref a :: st) w = ab_Run ab_mt 122 39 ls (ab_fv 14 (w.2 a) :: st) w := E_get rfl h
theorem e_122_39 {ls : ab_L} {st : List Value} {w : ab_W} (h : ab_isI (ls 3) = true) : ab_Run ab_mt 122 39 ls st w = ab_Run ab_mt 122 40 ls (ab_gv (ls 3) :: st) w := E_loadi (n := 1) rfl h
theorem e_122_40 {ls : ab_L} {st : List Value} {w : ab_W} (h : ab_isI (ls 6) = true) : ab_Run ab_mt 122 40 ls st w = ab_Run ab_mt 122 42 ls (ab_gv (ls 6) :: st) w := E_loadi (n := 2) rfl h
theorem e_122_42 {ls : ab_L} {st : List Value} {w : ab_W} {x y : Int32} : ab_Run ab_mt 122 42 ls (.int y :: .int x :: st) w = ab_Run ab_mt 122 43 ls (.int (x + y) :: st) w := E_ib (f := fun x y => x + y) rfl
theorem e_122_43 {ls : ab_L} {st : List Value} {w : ab_W} (h : ab_isI (ls 4) = true) : ab_Run ab_mt 122 43 ls st w = ab_Run ab_mt 122 45 ls (ab_gv (ls 4) :: st) w := E_loadi (n := 2) rfl h
theorem e_122_45 {ls : ab_L} {st : List Value} {w : ab_W} {a : Nat} {i x : Int32} (h : ab_inW i (w.2 a) = true) : ab_Run ab_mt 122 45 ls (.int x :: .int i :: .ref a :: st) w = ab_Run ab_mt 122 46 ls st (w.1, ab_up w.2 a (ab_sI i.toNatClampNeg x (w.2 a))) := E_iast rfl h
theorem e_122_46 {ls : ab_L} {st : List Value} {w : ab_W} (h : ab_isR (ls 0) = true) : ab_Run ab_mt 122 46 ls st w = ab_Run ab_mt 122 47 ls (ab_gv (ls 0) :: st) w := E_loadr (n := 1) rfl h
theorem e_122_47 {ls : ab_L} {st : List Value} {w : ab_W} {a : Nat} (h : ab_isF 7 15 (w.2 a) = true) : ab_Run ab_mt 122 47 ls (.ref a :: st) w = ab_Run ab_mt 122 50 ls (ab_fv 15 (w.2 a) :: st) w := E_get rfl h
theorem e_122_50 {ls : ab_L} {st : List Value} {w : ab_W} (h : ab_isI (ls 3) = true) : ab_Run ab_mt 122 50 ls st w = ab_Run ab_mt 122 51 ls (ab_gv (ls 3) :: st) w := E_loadi (n := 1) rfl h
theorem e_122_51 {ls : ab_L} {st : List Value} {w : ab_W} (h : ab_isI (ls 6) = true) : ab_Run ab_mt 122 51 ls st w = ab_Run ab_mt 122 53 ls (ab_gv (ls 6) :: st) w := E_loadi (n := 2) rfl h
theorem e_122_53 {ls : ab_L} {st : List Value} {w : ab_W} {x y : Int32} : ab_Run ab_mt 122 53 ls (.int y :: .int x :: st) w = ab_Run ab_mt 122 54 ls (.int (x + y) :: st) w := E_ib (f := fun x y => x + y) rfl
theorem e_122_54 {ls : ab_L} {st : List Value} {w : ab_W} (h : ab_isL (ls 1) = true) (h2 : (ls 2).isNone = true) : ab_Run ab_mt 122 54 ls st w = ab_Run ab_mt 122 55 ls (ab_gv (ls 1) :: st) w := E_loadl (n := 1) rfl h h2
theorem e_122_55 {ls : ab_L} {st : List Value} {w : ab_W} (h : ab_isR (ls 0) = true) : ab_Run ab_mt 122 55 ls st w = ab_Run ab_mt 122 56 ls (ab_gv (ls 0) :: st) w := E_loadr (n := 1) rfl h
theorem e_122_56 {ls : ab_L} {st : List Value} {w : ab_W} (h : ab_isI (ls 4) = true) : ab_Run ab_mt 122 56 ls st w = ab_Run ab_mt 122 58 ls (ab_gv (ls 4) :: st) w := E_loadi (n := 2) rfl h
theorem e_122_58 {ls : ab_L} {st : List Value} {w : ab_W} (h : ab_isI (ls 3) = true) : ab_Run ab_mt 122 58 ls st w = ab_Run ab_mt 122 59 ls (ab_gv (ls 3) :: st) w := E_loadi (n := 1) rfl h
theorem e_122_59 {ls : ab_L} {st : List Value} {w : ab_W} (h : ab_isI (ls 6) = true) : ab_Run ab_mt 122 59 ls st w = ab_Run ab_mt 122 61 ls (ab_gv (ls 6) :: st) w := E_loadi (n := 2) rfl h
theorem e_122_61 {ls : ab_L} {st : List Value} {w : ab_W} {v0 v1 v2 v3 : Value} (h1 : ab_recv ab_mt 121 [v0, v1, v2, v3] w.2 = true) (h8 : ab_w8 st = true) : ab_Run ab_mt 122 61 ls (v3 :: v2 :: v1 :: v0 :: st) w = ab_aft 121 122 61 ls st (ab_Cl 121 [v0, v1, v2, v3] w) := E_call4 rfl h1 h8
theorem e_122_64 {ls : ab_L} {st : List Value} {w : ab_W} {x y : Int64} : ab_Run ab_mt 122 64 ls (.long y :: .long x :: st) w = ab_Run ab_mt 122 65 ls (.long (x + y) :: st) w := E_lb (f := fun x y => x + y) rfl
theorem e_122_65 {ls : ab_L} {st : List Value} {w : ab_W} {a : Nat} {i : Int32} {x : Int64} (h : ab_inL i (w.2 a) = true) : ab_Run ab_mt 122 65 ls (.long x :: .int i :: .ref a :: st) w = ab_Run ab_mt 122 66 ls st (w.1, ab_up w.2 a (ab_sL i.toNatClampNeg x (w.2 a))) := E_last rfl h
theorem e_122_66 {ls : ab_L} {st : List Value} {w : ab_W} (h : ab_isR (ls 0) = true) : ab_Run ab_mt 122 66 ls st w = ab_Run ab_mt 122 67 ls (ab_gv (ls 0) :: st) w := E_loadr (n := 1) rfl h
theorem e_122_67 {ls : ab_L} {st : List Value} {w : ab_W} {a : Nat} (h : ab_isF 7 16 (w.2 a) = true) : ab_Run ab_mt 122 67 ls (.ref a :: st) w = ab_Run ab_mt 122 70 ls (ab_fv 16 (w.2 a) :: st) w := E_get rfl h
theorem e_122_70 {ls : ab_L} {st : List Value} {w : ab_W} (h : ab_isI (ls 3) = true) : ab_Run ab_mt 122 70 ls st w = ab_Run ab_mt 122 71 ls (ab_gv (ls 3) :: st) w := E_loadi (n := 1) rfl h
theorem e_122_71 {ls : ab_L} {st : List Value} {w : ab_W} (h : ab_isI (ls 6) = true) : ab_Run ab_mt 122 71 ls st w = ab_Run ab_mt 122 73 ls (ab_gv (ls 6) :: st) w := E_loadi (n := 2) rfl h
theorem e_122_73 {ls : ab_L} {st : List Value} {w : ab_W} {x y : Int32} : ab_Run ab_mt 122 73 ls (.int y :: .int x :: st) w = ab_Run ab_mt 122 74 ls (.int (x + y) :: st) w := E_ib (f := fun x y => x + y) rfl
theorem e_122_74 {ls : ab_L} {st : List Value} {w : ab_W} (h : ab_isR (ls 0) = true) : ab_Run ab_mt 122 74 ls st w = ab_Run ab_mt 122 75 ls (ab_gv (ls 0) :: st) w := E_loadr (n := 1) rfl h
theorem e_122_75 {ls : ab_L} {st : List Value} {w : ab_W} (h : ab_isI (ls 4) = true) : ab_Run ab_mt 122 75 ls st w = ab_Run ab_mt 122 77 ls (ab_gv (ls 4) :: st) w := E_loadi (n := 2) rfl h
theorem e_122_77 {ls : ab_L} {st : List Value} {w : ab_W} (h : ab_isI (ls 3) = true) : ab_Run ab_mt 122 77 ls st w = ab_Run ab_mt 122 78 ls (ab_gv (ls 3) :: st) w := E_loadi (n := 1) rfl h
theorem e_122_78 {ls : ab_L} {st : List Value} {w : ab_W} (h : ab_isI (ls 6) = true) : ab_Run ab_mt 122 78 ls st w = ab_Run ab_mt 122 80 ls (ab_gv (ls 6) :: st) w := E_loadi (n := 2) rfl h
theorem e_122_80 {ls : ab_L} {st : List Value} {w : ab_W} : ab_Run ab_mt 122 80 ls st w = ab_Run ab_mt 122 81 ls (.int (nI 1) :: st) w := E_push (n := 1) rfl
theorem e_122_81 {ls : ab_L} {st : List Value} {w : ab_W} {x y : Int32} : ab_Run ab_mt 122 81 ls (.int y :: .int x :: st) w = ab_Run ab_mt 122 82 ls (.int (x + y) :: st) w := E_ib (f := fun x y => x + y) rfl
theorem e_122_82 {ls : ab_L} {st : List Value} {w : ab_W} {v0 v1 v2 v3 : Value} (h1 : ab_recv ab_mt 121 [v0, v1, v2, v3] w.2 = true) (h8 : ab_w8 st = true) : ab_Run ab_mt 122 82 ls (v3 :: v2 :: v1 :: v0 :: st) w = ab_aft 121 122 82 ls st (ab_Cl 121 [v0, v1, v2, v3] w) := E_call4 rfl h1 h8
theorem e_122_85 {ls : ab_L} {st : List Value} {w : ab_W} (h : ab_isR (ls 0) = true) : ab_Run ab_mt 122 85 ls st w = ab_Run ab_mt 122 86 ls (ab_gv (ls 0) :: st) w := E_loadr (n := 1) rfl h
theorem e_122_86 {ls : ab_L} {st : List Value} {w : ab_W} (h : ab_isI (ls 4) = true) : ab_Run ab_mt 122 86 ls st w = ab_Run ab_mt 122 88 ls (ab_gv (ls 4) :: st) w := E_loadi (n := 2) rfl h
theorem e_122_88 {ls : ab_L} {st : List Value} {w : ab_W} (h : ab_isI (ls 3) = true) : ab_Run ab_mt 122 88 ls st w = ab_Run ab_mt 122 89 ls (ab_gv (ls 3) :: st) w := E_loadi (n := 1) rfl h
theorem e_122_89 {ls : ab_L} {st : List Value} {w : ab_W} (h : ab_isI (ls 6) = true) : ab_Run ab_mt 122 89 ls st w = ab_Run ab_mt 122 91 ls (ab_gv (ls 6) :: st) w := E_loadi (n := 2) rfl h
theorem e_122_91 {ls : ab_L} {st : List Value} {w : ab_W} {v0 v1 v2 v3 : Value} (h1 : ab_recv ab_mt 121 [v0, v1, v2, v3] w.2 = true) (h8 : ab_w8 st = true) : ab_Run ab_mt 122 91 ls (v3 :: v2 :: v1 :: v0 :: st) w = ab_aft 121 122 91 ls st (ab_Cl 121 [v0, v1, v2, v3] w) := E_call4 rfl h1 h8
theorem e_122_94 {ls : ab_L} {st : List Value} {w : ab_W} {x y : Int64} : ab_Run ab_mt 122 94 ls (.long y :: .long x :: st) w = ab_Run ab_mt 122 95 ls (.long (x - y) :: st) w := E_lb (f := fun x y => x - y) rfl
theorem e_122_95 {ls : ab_L} {st : List Value} {w : ab_W} {a : Nat} {i : Int32} {x : Int64} (h : ab_inL i (w.2 a) = true) : ab_Run ab_mt 122 95 ls (.long x :: .int i :: .ref a :: st) w = ab_Run ab_mt 122 96 ls st (w.1, ab_up w.2 a (ab_sL i.toNatClampNeg x (w.2 a))) := E_last rfl h
theorem e_122_96 {ls : ab_L} {st : List Value} {w : ab_W} (h : ab_isI (ls 6) = true) : ab_Run ab_mt 122 96 ls st w = ab_Run ab_mt 122 99 (ab_l1 ls 6 (.int (ab_gi (ls 6) + (nI 1)))) st w := E_iinc rfl h
theorem e_122_99 {ls : ab_L} {st : List Value} {w : ab_W} : ab_Run ab_mt 122 99 ls st w = ab_Run ab_mt 122 28 ls st w := E_goto rfl
theorem e_122_102 {ls : ab_L} {st : List Value} {w : ab_W} (h : ab_isL (ls 1) = true) (h2 : (ls 2).isNone = true) : ab_Run ab_mt 122 102 ls st w = ab_Run ab_mt 122 103 ls (ab_gv (ls 1) :: st) w := E_loadl (n := 1) rfl h h2
theorem e_122_103 {ls : ab_L} {st : List Value} {w : ab_W} (h : ab_isR (ls 0) = true) : ab_Run ab_mt 122 103 ls st w = ab_Run ab_mt 122 104 ls (ab_gv (ls 0) :: st) w := E_loadr (n := 1) rfl h
theorem e_122_104 {ls : ab_L} {st : List Value} {w : ab_W} (h : ab_isI (ls 4) = true) : ab_Run ab_mt 122 104 ls st w = ab_Run ab_mt 122 106 ls (ab_gv (ls 4) :: st) w := E_loadi (n := 2) rfl h
theorem e_122_106 {ls : ab_L} {st : List Value} {w : ab_W} (h : ab_isI (ls 3) = true) : ab_Run ab_mt 122 106 ls st w = ab_Run ab_mt 122 107 ls (ab_gv (ls 3) :: st) w := E_loadi (n := 1) rfl h
theorem e_122_107 {ls : ab_L} {st : List Value} {w : ab_W} (h : ab_isI (ls 5) = true) : ab_Run ab_mt 122 107 ls st w = ab_Run ab_mt 122 109 ls (ab_gv (ls 5) :: st) w := E_loadi (n := 2) rfl h
theorem e_122_109 {ls : ab_L} {st : List Value} {w : ab_W} {v0 v1 v2 v3 : Value} (h1 : ab_recv ab_mt 121 [v0, v1, v2, v3] w.2 = true) (h8 : ab_w8 st = true) : ab_Run ab_mt 122 109 ls (v3 :: v2 :: v1 :: v0 :: st) w = ab_aft 121 122 109 ls st (ab_Cl 121 [v0, v1, v2, v3] w) := E_call4 rfl h1 h8
theorem e_122_112 {ls : ab_L} {st : List Value} {w : ab_W} : ab_Run ab_mt 122 112 ls st w = ab_Run ab_mt 122 115 ls (.long (lN 1000) :: st) w := E_push (n := 3) rfl
theorem e_122_115 {ls : ab_L} {st : List Value} {w : ab_W} (h : ab_isR (ls 0) = true) : ab_Run ab_mt 122 115 ls st w = ab_Run ab_mt 122 116 ls (ab_gv (ls 0) :: st) w := E_loadr (n := 1) rfl h
theorem e_122_116 {ls : ab_L} {st : List Value} {w : ab_W} (h : ab_isI (ls 4) = true) : ab_Run ab_mt 122 116 ls st w = ab_Run ab_mt 122 118 ls (ab_gv (ls 4) :: st) w := E_loadi (n := 2) rfl h
theorem e_122_118 {ls : ab_L} {st : List Value} {w : ab_W} : ab_Run ab_mt 122 118 ls st w = ab_Run ab_mt 122 119 ls (.int (nI 3) :: st) w := E_push (n := 1) rfl
theorem e_122_119 {ls : ab_L} {st : List Value} {w : ab_W} {v0 v1 v2 : Value} (h1 : ab_recv ab_mt 109 [v0, v1, v2] w.2 = true) (h8 : ab_w8 st = true) : ab_Run ab_mt 122 119 ls (v2 :: v1 :: v0 :: st) w = ab_aft 109 122 119 ls st (ab_Cl 109 [v0, v1, v2] w) := E_call3 rfl h1 h8
theorem e_122_122 {ls : ab_L} {st : List Value} {w : ab_W} {x : Int32} : ab_Run ab_mt 122 122 ls (.int x :: st) w = ab_Run ab_mt 122 123 ls (.long x.toInt64 :: st) w := E_i2l rfl
theorem e_122_123 {ls : ab_L} {st : List Value} {w : ab_W} {x y : Int64} : ab_Run ab_mt 122 123 ls (.long y :: .long x :: st) w = ab_Run ab_mt 122 124 ls (.long (x * y) :: st) w := E_lb (f := fun x y => x * y) rfl
theorem e_122_124 {ls : ab_L} {st : List Value} {w : ab_W} {x y : Int64} : ab_Run ab_mt 122 124 ls (.long y :: .long x :: st) w = ab_Run ab_mt 122 125 ls (.long (x + y) :: st) w := E_lb (f := fun x y => x + y) rfl
theorem e_122_125 {ls : ab_L} {st : List Value} {w : ab_W} {x y : Int64} : ab_Run ab_mt 122 125 ls (.long y :: .long x :: st) w = ab_Run ab_mt 122 126 ls (.long (x + y) :: st) w := E_lb (f := fun x y => x + y) rfl
theorem e_122_126 {ls : ab_L} {st : List Value} {w : ab_W} {x : Int64} : ab_Run ab_mt 122 126 ls (.long x :: st) w = ab_Run ab_mt 122 127 (ab_l2 ls 1 (.long x)) st w := E_storl (n := 1) rfl
theorem e_122_127 {ls : ab_L} {st : List Value} {w : ab_W} (h : ab_isI (ls 3) = true) : ab_Run ab_mt 122 127 ls st w = ab_Run ab_mt 122 128 ls (ab_gv (ls 3) :: st) w := E_loadi (n := 1) rfl h
theorem e_122_128 {ls : ab_L} {st : List Value} {w : ab_W} (h : ab_isI (ls 5) = true) : ab_Run ab_mt 122 128 ls st w = ab_Run ab_mt 122 130 ls (ab_gv (ls 5) :: st) w := E_loadi (n := 2) rfl h
theorem e_122_130 {ls : ab_L} {st : List Value} {w : ab_W} {x y : Int32} : ab_Run ab_mt 122 130 ls (.int y :: .int x :: st) w = ab_Run ab_mt 122 131 ls (.int (x + y) :: st) w := E_ib (f := fun x y => x + y) rfl
theorem e_122_131 {ls : ab_L} {st : List Value} {w : ab_W} {x : Int32} : ab_Run ab_mt 122 131 ls (.int x :: st) w = ab_Run ab_mt 122 132 (ab_l1 ls 3 (.int x)) st w := E_stori (n := 1) rfl
theorem e_122_132 {ls : ab_L} {st : List Value} {w : ab_W} (h : ab_isI (ls 4) = true) : ab_Run ab_mt 122 132 ls st w = ab_Run ab_mt 122 135 (ab_l1 ls 4 (.int (ab_gi (ls 4) + (nI 1)))) st w := E_iinc rfl h
theorem e_122_135 {ls : ab_L} {st : List Value} {w : ab_W} : ab_Run ab_mt 122 135 ls st w = ab_Run ab_mt 122 7 ls st w := E_goto rfl
theorem e_122_138 {ls : ab_L} {st : List Value} {w : ab_W} (h : ab_isR (ls 0) = true) : ab_Run ab_mt 122 138 ls st w = ab_Run ab_mt 122 139 ls (ab_gv (ls 0) :: st) w := E_loadr (n := 1) rfl h
theorem e_122_139 {ls : ab_L} {st : List Value} {w : ab_W} (h : ab_isL (ls 1) = true) (h2 : (ls 2).isNone = true) : ab_Run ab_mt 122 139 ls st w = ab_Run ab_mt 122 140 ls (ab_gv (ls 1) :: st) w := E_loadl (n := 1) rfl h h2
theorem e_122_140 {ls : ab_L} {st : List Value} {w : ab_W} {a : Nat} {x : Int64} (h : ab_isF 7 17 (w.2 a) = true) : ab_Run ab_mt 122 140 ls (.long x :: .ref a :: st) w = ab_Run ab_mt 122 143 ls st (w.1, ab_up w.2 a (ab_sf 17 (.long x) (w.2 a))) := E_put rfl h rfl
theorem e_122_143 {ls : ab_L} {w : ab_W} : ab_Run ab_mt 122 143 ls [] w = some (.inl none, w) := E_ret0 rfl
theorem rv_122 {σ : ab_S} {t : Nat} : ab_recv ab_mt 122 [.ref t] σ = ab_isO 7 (σ t) := rfl
theorem x_122_61 {ls : ab_L} {rest : List Value} {E : Nat} {w : ab_W} : ab_aft 121 122 61 ls rest (some (.inr E, w)) = some (.inr E, w) := ab_aft_x rfl rfl (by unfold ab_hand; rfl)
theorem x_122_82 {ls : ab_L} {rest : List Value} {E : Nat} {w : ab_W} : ab_aft 121 122 82 ls rest (some (.inr E, w)) = some (.inr E, w) := ab_aft_x rfl rfl (by unfold ab_hand; rfl)
theorem x_122_91 {ls : ab_L} {rest : List Value} {E : Nat} {w : ab_W} : ab_aft 121 122 91 ls rest (some (.inr E, w)) = some (.inr E, w) := ab_aft_x rfl rfl (by unfold ab_hand; rfl)
theorem x_122_109 {ls : ab_L} {rest : List Value} {E : Nat} {w : ab_W} : ab_aft 121 122 109 ls rest (some (.inr E, w)) = some (.inr E, w) := ab_aft_x rfl rfl (by unfold ab_hand; rfl)
theorem e_123_0 {ls : ab_L} {st : List Value} {w : ab_W} (h : ab_isR (ls 0) = true) : ab_Run ab_mt 123 0 ls st w = ab_Run ab_mt 123 1 ls (ab_gv (ls 0) :: st) w := E_loadr (n := 1) rfl h
theorem e_123_1 {ls : ab_L} {st : List Value} {w : ab_W} {a : Nat} (h : ab_isF 7 15 (w.2 a) = true) : ab_Run ab_mt 123 1 ls (.ref a :: st) w = ab_Run ab_mt 123 4 ls (ab_fv 15 (w.2 a) :: st) w := E_get rfl h
theorem e_123_4 {ls : ab_L} {st : List Value} {w : ab_W} (h : ab_isI (ls 1) = true) : ab_Run ab_mt 123 4 ls st w = ab_Run ab_mt 123 5 ls (ab_gv (ls 1) :: st) w := E_loadi (n := 1) rfl h
theorem e_123_5 {ls : ab_L} {st : List Value} {w : ab_W} {a : Nat} {i : Int32} (h : ab_inL i (w.2 a) = true) : ab_Run ab_mt 123 5 ls (.int i :: .ref a :: st) w = ab_Run ab_mt 123 6 ls (.long (ab_aL i.toNatClampNeg (w.2 a)) :: st) w := E_lald rfl h
theorem e_123_6 {ls : ab_L} {st : List Value} {w : ab_W} (h : ab_isR (ls 0) = true) : ab_Run ab_mt 123 6 ls st w = ab_Run ab_mt 123 7 ls (ab_gv (ls 0) :: st) w := E_loadr (n := 1) rfl h
theorem e_123_7 {ls : ab_L} {st : List Value} {w : ab_W} {a : Nat} (h : ab_isF 7 16 (w.2 a) = true) : ab_Run ab_mt 123 7 ls (.ref a :: st) w = ab_Run ab_mt 123 10 ls (ab_fv 16 (w.2 a) :: st) w := E_get rfl h
theorem e_123_10 {ls : ab_L} {st : List Value} {w : ab_W} (h : ab_isI (ls 1) = true) : ab_Run ab_mt 123 10 ls st w = ab_Run ab_mt 123 11 ls (ab_gv (ls 1) :: st) w := E_loadi (n := 1) rfl h
theorem e_123_11 {ls : ab_L} {st : List Value} {w : ab_W} {a : Nat} {i : Int32} (h : ab_inL i (w.2 a) = true) : ab_Run ab_mt 123 11 ls (.int i :: .ref a :: st) w = ab_Run ab_mt 123 12 ls (.long (ab_aL i.toNatClampNeg (w.2 a)) :: st) w := E_lald rfl h
theorem e_123_12 {ls : ab_L} {st : List Value} {w : ab_W} (h : ab_isI (ls 2) = true) : ab_Run ab_mt 123 12 ls st w = ab_Run ab_mt 123 13 ls (ab_gv (ls 2) :: st) w := E_loadi (n := 1) rfl h
theorem e_123_13 {ls : ab_L} {st : List Value} {w : ab_W} {x : Int32} : ab_Run ab_mt 123 13 ls (.int x :: st) w = ab_Run ab_mt 123 14 ls (.long x.toInt64 :: st) w := E_i2l rfl
theorem e_123_14 {ls : ab_L} {st : List Value} {w : ab_W} {x y : Int64} : ab_Run ab_mt 123 14 ls (.long y :: .long x :: st) w = ab_Run ab_mt 123 15 ls (.long (x * y) :: st) w := E_lb (f := fun x y => x * y) rfl
theorem e_123_15 {ls : ab_L} {st : List Value} {w : ab_W} (h : ab_isR (ls 0) = true) : ab_Run ab_mt 123 15 ls st w = ab_Run ab_mt 123 16 ls (ab_gv (ls 0) :: st) w := E_loadr (n := 1) rfl h
theorem e_123_16 {ls : ab_L} {st : List Value} {w : ab_W} (h : ab_isR (ls 0) = true) : ab_Run ab_mt 123 16 ls st w = ab_Run ab_mt 123 17 ls (ab_gv (ls 0) :: st) w := E_loadr (n := 1) rfl h
theorem e_123_17 {ls : ab_L} {st : List Value} {w : ab_W} {a : Nat} (h : ab_isF 7 14 (w.2 a) = true) : ab_Run ab_mt 123 17 ls (.ref a :: st) w = ab_Run ab_mt 123 20 ls (ab_fv 14 (w.2 a) :: st) w := E_get rfl h
theorem e_123_20 {ls : ab_L} {st : List Value} {w : ab_W} (h : ab_isI (ls 1) = true) : ab_Run ab_mt 123 20 ls st w = ab_Run ab_mt 123 21 ls (ab_gv (ls 1) :: st) w := E_loadi (n := 1) rfl h
theorem e_123_21 {ls : ab_L} {st : List Value} {w : ab_W} {a : Nat} {i : Int32} (h : ab_inI i (w.2 a) = true) : ab_Run ab_mt 123 21 ls (.int i :: .ref a :: st) w = ab_Run ab_mt 123 22 ls (.int (ab_aI i.toNatClampNeg (w.2 a)) :: st) w := E_iald rfl h
theorem e_123_22 {ls : ab_L} {st : List Value} {w : ab_W} : ab_Run ab_mt 123 22 ls st w = ab_Run ab_mt 123 23 ls (.int (nI 1) :: st) w := E_push (n := 1) rfl
theorem e_123_23 {ls : ab_L} {st : List Value} {w : ab_W} {v0 v1 v2 : Value} (h1 : ab_recv ab_mt 109 [v0, v1, v2] w.2 = true) (h8 : ab_w8 st = true) : ab_Run ab_mt 123 23 ls (v2 :: v1 :: v0 :: st) w = ab_aft 109 123 23 ls st (ab_Cl 109 [v0, v1, v2] w) := E_call3 rfl h1 h8
theorem e_123_26 {ls : ab_L} {st : List Value} {w : ab_W} {x : Int32} : ab_Run ab_mt 123 26 ls (.int x :: st) w = ab_Run ab_mt 123 27 ls (.long x.toInt64 :: st) w := E_i2l rfl
theorem e_123_27 {ls : ab_L} {st : List Value} {w : ab_W} {x y : Int64} (h : ¬ y = 0) : ab_Run ab_mt 123 27 ls (.long y :: .long x :: st) w = ab_Run ab_mt 123 28 ls (.long (x / y) :: st) w := E_ldv (f := fun x y => x / y) rfl h
theorem e_123_28 {ls : ab_L} {st : List Value} {w : ab_W} {x y : Int64} : ab_Run ab_mt 123 28 ls (.long y :: .long x :: st) w = ab_Run ab_mt 123 29 ls (.long (x + y) :: st) w := E_lb (f := fun x y => x + y) rfl
theorem e_123_29 {ls : ab_L} {w : ab_W} {x : Int64} : ab_Run ab_mt 123 29 ls [.long x] w = some (.inl (some (.long x)), w) := E_retl rfl
theorem rv_123 {σ : ab_S} {t : Nat} {x0 : Int32} {x1 : Int32} : ab_recv ab_mt 123 [.ref t, .int x0, .int x1] σ = ab_isO 7 (σ t) := rfl
theorem e_124_0 {ls : ab_L} {st : List Value} {w : ab_W} (h : ab_isR (ls 0) = true) : ab_Run ab_mt 124 0 ls st w = ab_Run ab_mt 124 1 ls (ab_gv (ls 0) :: st) w := E_loadr (n := 1) rfl h
theorem e_124_1 {ls : ab_L} {st : List Value} {w : ab_W} (h : ab_isI (ls 1) = true) : ab_Run ab_mt 124 1 ls st w = ab_Run ab_mt 124 2 ls (ab_gv (ls 1) :: st) w := E_loadi (n := 1) rfl h
theorem e_124_2 {ls : ab_L} {st : List Value} {w : ab_W} : ab_Run ab_mt 124 2 ls st w = ab_Run ab_mt 124 3 ls (.int (nI 0) :: st) w := E_push (n := 1) rfl
theorem e_124_3 {ls : ab_L} {st : List Value} {w : ab_W} {v0 v1 v2 : Value} (h1 : ab_recv ab_mt 111 [v0, v1, v2] w.2 = true) (h8 : ab_w8 st = true) : ab_Run ab_mt 124 3 ls (v2 :: v1 :: v0 :: st) w = ab_aft 111 124 3 ls st (ab_Cl 111 [v0, v1, v2] w) := E_call3 rfl h1 h8
theorem e_124_6 {ls : ab_L} {st : List Value} {w : ab_W} {x : Int32} : ab_Run ab_mt 124 6 ls (.int x :: st) w = ab_Run ab_mt 124 7 (ab_l1 ls 2 (.int x)) st w := E_stori (n := 1) rfl
theorem e_124_7 {ls : ab_L} {st : List Value} {w : ab_W} (h : ab_isR (ls 0) = true) : ab_Run ab_mt 124 7 ls st w = ab_Run ab_mt 124 8 ls (ab_gv (ls 0) :: st) w := E_loadr (n := 1) rfl h
theorem e_124_8 {ls : ab_L} {st : List Value} {w : ab_W} {a : Nat} (h : ab_isF 7 15 (w.2 a) = true) : ab_Run ab_mt 124 8 ls (.ref a :: st) w = ab_Run ab_mt 124 11 ls (ab_fv 15 (w.2 a) :: st) w := E_get rfl h
theorem e_124_11 {ls : ab_L} {st : List Value} {w : ab_W} (h : ab_isI (ls 2) = true) : ab_Run ab_mt 124 11 ls st w = ab_Run ab_mt 124 12 ls (ab_gv (ls 2) :: st) w := E_loadi (n := 1) rfl h
theorem e_124_12 {ls : ab_L} {st : List Value} {w : ab_W} {a : Nat} {i : Int32} (h : ab_inL i (w.2 a) = true) : ab_Run ab_mt 124 12 ls (.int i :: .ref a :: st) w = ab_Run ab_mt 124 13 ls (.long (ab_aL i.toNatClampNeg (w.2 a)) :: st) w := E_lald rfl h
theorem e_124_13 {ls : ab_L} {st : List Value} {w : ab_W} (h : ab_isR (ls 0) = true) : ab_Run ab_mt 124 13 ls st w = ab_Run ab_mt 124 14 ls (ab_gv (ls 0) :: st) w := E_loadr (n := 1) rfl h
theorem e_124_14 {ls : ab_L} {st : List Value} {w : ab_W} {a : Nat} (h : ab_isF 7 16 (w.2 a) = true) : ab_Run ab_mt 124 14 ls (.ref a :: st) w = ab_Run ab_mt 124 17 ls (ab_fv 16 (w.2 a) :: st) w := E_get rfl h
theorem e_124_17 {ls : ab_L} {st : List Value} {w : ab_W} (h : ab_isI (ls 2) = true) : ab_Run ab_mt 124 17 ls st w = ab_Run ab_mt 124 18 ls (ab_gv (ls 2) :: st) w := E_loadi (n := 1) rfl h
theorem e_124_18 {ls : ab_L} {st : List Value} {w : ab_W} {a : Nat} {i : Int32} (h : ab_inL i (w.2 a) = true) : ab_Run ab_mt 124 18 ls (.int i :: .ref a :: st) w = ab_Run ab_mt 124 19 ls (.long (ab_aL i.toNatClampNeg (w.2 a)) :: st) w := E_lald rfl h
theorem e_124_19 {ls : ab_L} {st : List Value} {w : ab_W} (h : ab_isR (ls 0) = true) : ab_Run ab_mt 124 19 ls st w = ab_Run ab_mt 124 20 ls (ab_gv (ls 0) :: st) w := E_loadr (n := 1) rfl h
theorem e_124_20 {ls : ab_L} {st : List Value} {w : ab_W} (h : ab_isI (ls 1) = true) : ab_Run ab_mt 124 20 ls st w = ab_Run ab_mt 124 21 ls (ab_gv (ls 1) :: st) w := E_loadi (n := 1) rfl h
theorem e_124_21 {ls : ab_L} {st : List Value} {w : ab_W} : ab_Run ab_mt 124 21 ls st w = ab_Run ab_mt 124 22 ls (.int (nI 1) :: st) w := E_push (n := 1) rfl
theorem e_124_22 {ls : ab_L} {st : List Value} {w : ab_W} {v0 v1 v2 : Value} (h1 : ab_recv ab_mt 111 [v0, v1, v2] w.2 = true) (h8 : ab_w8 st = true) : ab_Run ab_mt 124 22 ls (v2 :: v1 :: v0 :: st) w = ab_aft 111 124 22 ls st (ab_Cl 111 [v0, v1, v2] w) := E_call3 rfl h1 h8
theorem e_124_25 {ls : ab_L} {st : List Value} {w : ab_W} {x : Int32} : ab_Run ab_mt 124 25 ls (.int x :: st) w = ab_Run ab_mt 124 26 ls (.long x.toInt64 :: st) w := E_i2l rfl
theorem e_124_26 {ls : ab_L} {st : List Value} {w : ab_W} {x y : Int64} : ab_Run ab_mt 124 26 ls (.long y :: .long x :: st) w = ab_Run ab_mt 124 27 ls (.long (x * y) :: st) w := E_lb (f := fun x y => x * y) rfl
theorem e_124_27 {ls : ab_L} {st : List Value} {w : ab_W} : ab_Run ab_mt 124 27 ls st w = ab_Run ab_mt 124 30 ls (.long (lN 480) :: st) w := E_push (n := 3) rfl
theorem e_124_30 {ls : ab_L} {st : List Value} {w : ab_W} {x y : Int64} (h : ¬ y = 0) : ab_Run ab_mt 124 30 ls (.long y :: .long x :: st) w = ab_Run ab_mt 124 31 ls (.long (x / y) :: st) w := E_ldv (f := fun x y => x / y) rfl h
theorem e_124_31 {ls : ab_L} {st : List Value} {w : ab_W} {x y : Int64} : ab_Run ab_mt 124 31 ls (.long y :: .long x :: st) w = ab_Run ab_mt 124 32 ls (.long (x + y) :: st) w := E_lb (f := fun x y => x + y) rfl
theorem e_124_32 {ls : ab_L} {w : ab_W} {x : Int64} : ab_Run ab_mt 124 32 ls [.long x] w = some (.inl (some (.long x)), w) := E_retl rfl
theorem rv_124 {σ : ab_S} {t : Nat} {x0 : Int32} : ab_recv ab_mt 124 [.ref t, .int x0] σ = ab_isO 7 (σ t) := rfl
theorem e_125_0 {ls : ab_L} {st : List Value} {w : ab_W} (h : ab_isR (ls 0) = true) : ab_Run ab_mt 125 0 ls st w = ab_Run ab_mt 125 1 ls (ab_gv (ls 0) :: st) w := E_loadr (n := 1) rfl h
theorem e_125_1 {ls : ab_L} {st : List Value} {w : ab_W} {a : Nat} (h : ab_isF 7 14 (w.2 a) = true) : ab_Run ab_mt 125 1 ls (.ref a :: st) w = ab_Run ab_mt 125 4 ls (ab_fv 14 (w.2 a) :: st) w := E_get rfl h
theorem e_125_4 {ls : ab_L} {st : List Value} {w : ab_W} (h : ab_isI (ls 1) = true) : ab_Run ab_mt 125 4 ls st w = ab_Run ab_mt 125 5 ls (ab_gv (ls 1) :: st) w := E_loadi (n := 1) rfl h
theorem e_125_5 {ls : ab_L} {st : List Value} {w : ab_W} {a : Nat} {i : Int32} (h : ab_inI i (w.2 a) = true) : ab_Run ab_mt 125 5 ls (.int i :: .ref a :: st) w = ab_Run ab_mt 125 6 ls (.int (ab_aI i.toNatClampNeg (w.2 a)) :: st) w := E_iald rfl h
theorem e_125_6 {ls : ab_L} {st : List Value} {w : ab_W} {x : Int32} : ab_Run ab_mt 125 6 ls (.int x :: st) w = ab_Run ab_mt 125 7 (ab_l1 ls 2 (.int x)) st w := E_stori (n := 1) rfl
theorem e_125_7 {ls : ab_L} {st : List Value} {w : ab_W} (h : ab_isR (ls 0) = true) : ab_Run ab_mt 125 7 ls st w = ab_Run ab_mt 125 8 ls (ab_gv (ls 0) :: st) w := E_loadr (n := 1) rfl h
theorem e_125_8 {ls : ab_L} {st : List Value} {w : ab_W} (h : ab_isI (ls 2) = true) : ab_Run ab_mt 125 8 ls st w = ab_Run ab_mt 125 9 ls (ab_gv (ls 2) :: st) w := E_loadi (n := 1) rfl h
theorem e_125_9 {ls : ab_L} {st : List Value} {w : ab_W} : ab_Run ab_mt 125 9 ls st w = ab_Run ab_mt 125 10 ls (.int (nI 4) :: st) w := E_push (n := 1) rfl
theorem e_125_10 {ls : ab_L} {st : List Value} {w : ab_W} {v0 v1 v2 : Value} (h1 : ab_recv ab_mt 109 [v0, v1, v2] w.2 = true) (h8 : ab_w8 st = true) : ab_Run ab_mt 125 10 ls (v2 :: v1 :: v0 :: st) w = ab_aft 109 125 10 ls st (ab_Cl 109 [v0, v1, v2] w) := E_call3 rfl h1 h8
theorem e_125_13 {ls : ab_L} {st : List Value} {w : ab_W} (h : ab_isI (ls 1) = true) : ab_Run ab_mt 125 13 ls st w = ab_Run ab_mt 125 14 ls (ab_gv (ls 1) :: st) w := E_loadi (n := 1) rfl h
theorem e_125_14 {ls : ab_L} {st : List Value} {w : ab_W} (h : ab_isR (ls 0) = true) : ab_Run ab_mt 125 14 ls st w = ab_Run ab_mt 125 15 ls (ab_gv (ls 0) :: st) w := E_loadr (n := 1) rfl h
theorem e_125_15 {ls : ab_L} {st : List Value} {w : ab_W} (h : ab_isI (ls 2) = true) : ab_Run ab_mt 125 15 ls st w = ab_Run ab_mt 125 16 ls (ab_gv (ls 2) :: st) w := E_loadi (n := 1) rfl h
theorem e_125_16 {ls : ab_L} {st : List Value} {w : ab_W} {v0 v1 : Value} (h1 : ab_recv ab_mt 113 [v0, v1] w.2 = true) (h8 : ab_w8 st = true) : ab_Run ab_mt 125 16 ls (v1 :: v0 :: st) w = ab_aft 113 125 16 ls st (ab_Cl 113 [v0, v1] w) := E_call2 rfl h1 h8
theorem e_125_19 {ls : ab_L} {st : List Value} {w : ab_W} {x y : Int32} : ab_Run ab_mt 125 19 ls (.int y :: .int x :: st) w = ab_Run ab_mt 125 20 ls (.int (x - y) :: st) w := E_ib (f := fun x y => x - y) rfl
theorem e_125_20 {ls : ab_L} {st : List Value} {w : ab_W} {x y : Int32} : ab_Run ab_mt 125 20 ls (.int y :: .int x :: st) w = ab_Run ab_mt 125 21 ls (.int (x >>> (y &&& 31)) :: st) w := E_ib (f := fun x y => x >>> (y &&& 31)) rfl
theorem e_125_21 {ls : ab_L} {st : List Value} {w : ab_W} : ab_Run ab_mt 125 21 ls st w = ab_Run ab_mt 125 22 ls (.int (nI 1) :: st) w := E_push (n := 1) rfl
theorem e_125_22 {ls : ab_L} {st : List Value} {w : ab_W} {x y : Int32} : ab_Run ab_mt 125 22 ls (.int y :: .int x :: st) w = ab_Run ab_mt 125 23 ls (.int (x &&& y) :: st) w := E_ib (f := fun x y => x &&& y) rfl
theorem e_125_23 {ls : ab_L} {st : List Value} {w : ab_W} : ab_Run ab_mt 125 23 ls st w = ab_Run ab_mt 125 24 ls (.int (nI 1) :: st) w := E_push (n := 1) rfl
theorem e_125_24 {ls : ab_L} {st : List Value} {w : ab_W} {x y : Int32} : ab_Run ab_mt 125 24 ls (.int y :: .int x :: st) w = if x = y then ab_Run ab_mt 125 27 ls st w else ab_Run ab_mt 125 31 ls st w := E_ic_ne rfl
theorem e_125_27 {ls : ab_L} {st : List Value} {w : ab_W} : ab_Run ab_mt 125 27 ls st w = ab_Run ab_mt 125 28 ls (.int (nI 1) :: st) w := E_push (n := 1) rfl
theorem e_125_28 {ls : ab_L} {st : List Value} {w : ab_W} : ab_Run ab_mt 125 28 ls st w = ab_Run ab_mt 125 32 ls st w := E_goto rfl
theorem e_125_31 {ls : ab_L} {st : List Value} {w : ab_W} : ab_Run ab_mt 125 31 ls st w = ab_Run ab_mt 125 32 ls (.int (nI 0) :: st) w := E_push (n := 1) rfl
theorem e_125_32 {ls : ab_L} {w : ab_W} {x : Int32} (h : ab_fitr 2 (.int x) = true) : ab_Run ab_mt 125 32 ls [.int x] w = some (.inl (some (.int x)), w) := E_retz rfl h
theorem rv_125 {σ : ab_S} {t : Nat} {x0 : Int32} : ab_recv ab_mt 125 [.ref t, .int x0] σ = ab_isO 7 (σ t) := rfl
theorem e_126_0 {ls : ab_L} {st : List Value} {w : ab_W} : ab_Run ab_mt 126 0 ls st w = ab_Run ab_mt 126 1 ls (.int (nI 0) :: st) w := E_push (n := 1) rfl
theorem e_126_1 {ls : ab_L} {st : List Value} {w : ab_W} {x : Int32} : ab_Run ab_mt 126 1 ls (.int x :: st) w = ab_Run ab_mt 126 2 (ab_l1 ls 1 (.int x)) st w := E_stori (n := 1) rfl
theorem e_126_2 {ls : ab_L} {st : List Value} {w : ab_W} (h : ab_isR (ls 0) = true) : ab_Run ab_mt 126 2 ls st w = ab_Run ab_mt 126 3 ls (ab_gv (ls 0) :: st) w := E_loadr (n := 1) rfl h
theorem e_126_3 {ls : ab_L} {st : List Value} {w : ab_W} {v0 : Value} (h1 : ab_recv ab_mt 114 [v0] w.2 = true) (h8 : ab_w8 st = true) : ab_Run ab_mt 126 3 ls (v0 :: st) w = ab_aft 114 126 3 ls st (ab_Cl 114 [v0] w) := E_call1 rfl h1 h8
theorem e_126_6 {ls : ab_L} {st : List Value} {w : ab_W} {x : Int32} : ab_Run ab_mt 126 6 ls (.int x :: st) w = ab_Run ab_mt 126 7 (ab_l1 ls 2 (.int x)) st w := E_stori (n := 1) rfl
theorem e_126_7 {ls : ab_L} {st : List Value} {w : ab_W} : ab_Run ab_mt 126 7 ls st w = ab_Run ab_mt 126 8 ls (.int (nI 0) :: st) w := E_push (n := 1) rfl
theorem e_126_8 {ls : ab_L} {st : List Value} {w : ab_W} {x : Int32} : ab_Run ab_mt 126 8 ls (.int x :: st) w = ab_Run ab_mt 126 9 (ab_l1 ls 3 (.int x)) st w := E_stori (n := 1) rfl
theorem e_126_9 {ls : ab_L} {st : List Value} {w : ab_W} (h : ab_isI (ls 3) = true) : ab_Run ab_mt 126 9 ls st w = ab_Run ab_mt 126 10 ls (ab_gv (ls 3) :: st) w := E_loadi (n := 1) rfl h
theorem e_126_10 {ls : ab_L} {st : List Value} {w : ab_W} (h : ab_isR (ls 0) = true) : ab_Run ab_mt 126 10 ls st w = ab_Run ab_mt 126 11 ls (ab_gv (ls 0) :: st) w := E_loadr (n := 1) rfl h
theorem e_126_11 {ls : ab_L} {st : List Value} {w : ab_W} {a : Nat} (h : ab_isF 7 1 (w.2 a) = true) : ab_Run ab_mt 126 11 ls (.ref a :: st) w = ab_Run ab_mt 126 14 ls (ab_fv 1 (w.2 a) :: st) w := E_get rfl h
theorem e_126_14 {ls : ab_L} {st : List Value} {w : ab_W} : ab_Run ab_mt 126 14 ls st w = ab_Run ab_mt 126 17 ls (.int (nI 192) :: st) w := E_push (n := 3) rfl
theorem e_126_17 {ls : ab_L} {st : List Value} {w : ab_W} {a : Nat} {i : Int32} (h : ab_inI i (w.2 a) = true) : ab_Run ab_mt 126 17 ls (.int i :: .ref a :: st) w = ab_Run ab_mt 126 18 ls (.int (ab_aI i.toNatClampNeg (w.2 a)) :: st) w := E_iald rfl h
theorem e_126_18 {ls : ab_L} {st : List Value} {w : ab_W} {x y : Int32} : ab_Run ab_mt 126 18 ls (.int y :: .int x :: st) w = if y ≤ x then ab_Run ab_mt 126 85 ls st w else ab_Run ab_mt 126 21 ls st w := E_ic_ge rfl
theorem e_126_21 {ls : ab_L} {st : List Value} {w : ab_W} (h : ab_isR (ls 0) = true) : ab_Run ab_mt 126 21 ls st w = ab_Run ab_mt 126 22 ls (ab_gv (ls 0) :: st) w := E_loadr (n := 1) rfl h
theorem e_126_22 {ls : ab_L} {st : List Value} {w : ab_W} (h : ab_isI (ls 3) = true) : ab_Run ab_mt 126 22 ls st w = ab_Run ab_mt 126 23 ls (ab_gv (ls 3) :: st) w := E_loadi (n := 1) rfl h
theorem e_126_23 {ls : ab_L} {st : List Value} {w : ab_W} : ab_Run ab_mt 126 23 ls st w = ab_Run ab_mt 126 24 ls (.int (nI 0) :: st) w := E_push (n := 1) rfl
theorem e_126_24 {ls : ab_L} {st : List Value} {w : ab_W} {v0 v1 v2 : Value} (h1 : ab_recv ab_mt 111 [v0, v1, v2] w.2 = true) (h8 : ab_w8 st = true) : ab_Run ab_mt 126 24 ls (v2 :: v1 :: v0 :: st) w = ab_aft 111 126 24 ls st (ab_Cl 111 [v0, v1, v2] w) := E_call3 rfl h1 h8
theorem e_126_27 {ls : ab_L} {st : List Value} {w : ab_W} (h : ab_isI (ls 2) = true) : ab_Run ab_mt 126 27 ls st w = ab_Run ab_mt 126 28 ls (ab_gv (ls 2) :: st) w := E_loadi (n := 1) rfl h
theorem e_126_28 {ls : ab_L} {st : List Value} {w : ab_W} {x y : Int32} : ab_Run ab_mt 126 28 ls (.int y :: .int x :: st) w = if y ≤ x then ab_Run ab_mt 126 79 ls st w else ab_Run ab_mt 126 31 ls st w := E_ic_ge rfl
theorem e_126_31 {ls : ab_L} {st : List Value} {w : ab_W} : ab_Run ab_mt 126 31 ls st w = ab_Run ab_mt 126 32 ls (.int (nI 0) :: st) w := E_push (n := 1) rfl
theorem e_126_32 {ls : ab_L} {st : List Value} {w : ab_W} {x : Int32} : ab_Run ab_mt 126 32 ls (.int x :: st) w = ab_Run ab_mt 126 34 (ab_l1 ls 4 (.int x)) st w := E_stori (n := 2) rfl
theorem e_126_34 {ls : ab_L} {st : List Value} {w : ab_W} (h : ab_isI (ls 4) = true) : ab_Run ab_mt 126 34 ls st w = ab_Run ab_mt 126 36 ls (ab_gv (ls 4) :: st) w := E_loadi (n := 2) rfl h
theorem e_126_36 {ls : ab_L} {st : List Value} {w : ab_W} : ab_Run ab_mt 126 36 ls st w = ab_Run ab_mt 126 37 ls (.int (nI 3) :: st) w := E_push (n := 1) rfl
theorem e_126_37 {ls : ab_L} {st : List Value} {w : ab_W} {x y : Int32} : ab_Run ab_mt 126 37 ls (.int y :: .int x :: st) w = if y ≤ x then ab_Run ab_mt 126 76 ls st w else ab_Run ab_mt 126 40 ls st w := E_ic_ge rfl
theorem e_126_40 {ls : ab_L} {st : List Value} {w : ab_W} (h : ab_isR (ls 0) = true) : ab_Run ab_mt 126 40 ls st w = ab_Run ab_mt 126 41 ls (ab_gv (ls 0) :: st) w := E_loadr (n := 1) rfl h
theorem e_126_41 {ls : ab_L} {st : List Value} {w : ab_W} {a : Nat} (h : ab_isF 7 1 (w.2 a) = true) : ab_Run ab_mt 126 41 ls (.ref a :: st) w = ab_Run ab_mt 126 44 ls (ab_fv 1 (w.2 a) :: st) w := E_get rfl h
theorem e_126_44 {ls : ab_L} {st : List Value} {w : ab_W} : ab_Run ab_mt 126 44 ls st w = ab_Run ab_mt 126 47 ls (.int (nI 153) :: st) w := E_push (n := 3) rfl
theorem e_126_47 {ls : ab_L} {st : List Value} {w : ab_W} : ab_Run ab_mt 126 47 ls st w = ab_Run ab_mt 126 48 ls (.int (nI 3) :: st) w := E_push (n := 1) rfl
theorem e_126_48 {ls : ab_L} {st : List Value} {w : ab_W} (h : ab_isI (ls 1) = true) : ab_Run ab_mt 126 48 ls st w = ab_Run ab_mt 126 49 ls (ab_gv (ls 1) :: st) w := E_loadi (n := 1) rfl h
theorem e_126_49 {ls : ab_L} {st : List Value} {w : ab_W} {x y : Int32} : ab_Run ab_mt 126 49 ls (.int y :: .int x :: st) w = ab_Run ab_mt 126 50 ls (.int (x * y) :: st) w := E_ib (f := fun x y => x * y) rfl
theorem e_126_50 {ls : ab_L} {st : List Value} {w : ab_W} {x y : Int32} : ab_Run ab_mt 126 50 ls (.int y :: .int x :: st) w = ab_Run ab_mt 126 51 ls (.int (x + y) :: st) w := E_ib (f := fun x y => x + y) rfl
theorem e_126_51 {ls : ab_L} {st : List Value} {w : ab_W} (h : ab_isI (ls 4) = true) : ab_Run ab_mt 126 51 ls st w = ab_Run ab_mt 126 53 ls (ab_gv (ls 4) :: st) w := E_loadi (n := 2) rfl h
theorem e_126_53 {ls : ab_L} {st : List Value} {w : ab_W} {x y : Int32} : ab_Run ab_mt 126 53 ls (.int y :: .int x :: st) w = ab_Run ab_mt 126 54 ls (.int (x + y) :: st) w := E_ib (f := fun x y => x + y) rfl
theorem e_126_54 {ls : ab_L} {st : List Value} {w : ab_W} (h : ab_isR (ls 0) = true) : ab_Run ab_mt 126 54 ls st w = ab_Run ab_mt 126 55 ls (ab_gv (ls 0) :: st) w := E_loadr (n := 1) rfl h
theorem e_126_55 {ls : ab_L} {st : List Value} {w : ab_W} {a : Nat} (h : ab_isF 7 1 (w.2 a) = true) : ab_Run ab_mt 126 55 ls (.ref a :: st) w = ab_Run ab_mt 126 58 ls (ab_fv 1 (w.2 a) :: st) w := E_get rfl h
theorem e_126_58 {ls : ab_L} {st : List Value} {w : ab_W} : ab_Run ab_mt 126 58 ls st w = ab_Run ab_mt 126 61 ls (.int (nI 153) :: st) w := E_push (n := 3) rfl
theorem e_126_61 {ls : ab_L} {st : List Value} {w : ab_W} : ab_Run ab_mt 126 61 ls st w = ab_Run ab_mt 126 62 ls (.int (nI 3) :: st) w := E_push (n := 1) rfl
theorem e_126_62 {ls : ab_L} {st : List Value} {w : ab_W} (h : ab_isI (ls 3) = true) : ab_Run ab_mt 126 62 ls st w = ab_Run ab_mt 126 63 ls (ab_gv (ls 3) :: st) w := E_loadi (n := 1) rfl h
theorem e_126_63 {ls : ab_L} {st : List Value} {w : ab_W} {x y : Int32} : ab_Run ab_mt 126 63 ls (.int y :: .int x :: st) w = ab_Run ab_mt 126 64 ls (.int (x * y) :: st) w := E_ib (f := fun x y => x * y) rfl
theorem e_126_64 {ls : ab_L} {st : List Value} {w : ab_W} {x y : Int32} : ab_Run ab_mt 126 64 ls (.int y :: .int x :: st) w = ab_Run ab_mt 126 65 ls (.int (x + y) :: st) w := E_ib (f := fun x y => x + y) rfl
theorem e_126_65 {ls : ab_L} {st : List Value} {w : ab_W} (h : ab_isI (ls 4) = true) : ab_Run ab_mt 126 65 ls st w = ab_Run ab_mt 126 67 ls (ab_gv (ls 4) :: st) w := E_loadi (n := 2) rfl h
theorem e_126_67 {ls : ab_L} {st : List Value} {w : ab_W} {x y : Int32} : ab_Run ab_mt 126 67 ls (.int y :: .int x :: st) w = ab_Run ab_mt 126 68 ls (.int (x + y) :: st) w := E_ib (f := fun x y => x + y) rfl
theorem e_126_68 {ls : ab_L} {st : List Value} {w : ab_W} {a : Nat} {i : Int32} (h : ab_inI i (w.2 a) = true) : ab_Run ab_mt 126 68 ls (.int i :: .ref a :: st) w = ab_Run ab_mt 126 69 ls (.int (ab_aI i.toNatClampNeg (w.2 a)) :: st) w := E_iald rfl h
theorem e_126_69 {ls : ab_L} {st : List Value} {w : ab_W} {a : Nat} {i x : Int32} (h : ab_inW i (w.2 a) = true) : ab_Run ab_mt 126 69 ls (.int x :: .int i :: .ref a :: st) w = ab_Run ab_mt 126 70 ls st (w.1, ab_up w.2 a (ab_sI i.toNatClampNeg x (w.2 a))) := E_iast rfl h
theorem e_126_70 {ls : ab_L} {st : List Value} {w : ab_W} (h : ab_isI (ls 4) = true) : ab_Run ab_mt 126 70 ls st w = ab_Run ab_mt 126 73 (ab_l1 ls 4 (.int (ab_gi (ls 4) + (nI 1)))) st w := E_iinc rfl h
theorem e_126_73 {ls : ab_L} {st : List Value} {w : ab_W} : ab_Run ab_mt 126 73 ls st w = ab_Run ab_mt 126 34 ls st w := E_goto rfl
theorem e_126_76 {ls : ab_L} {st : List Value} {w : ab_W} (h : ab_isI (ls 1) = true) : ab_Run ab_mt 126 76 ls st w = ab_Run ab_mt 126 79 (ab_l1 ls 1 (.int (ab_gi (ls 1) + (nI 1)))) st w := E_iinc rfl h
theorem e_126_79 {ls : ab_L} {st : List Value} {w : ab_W} (h : ab_isI (ls 3) = true) : ab_Run ab_mt 126 79 ls st w = ab_Run ab_mt 126 82 (ab_l1 ls 3 (.int (ab_gi (ls 3) + (nI 1)))) st w := E_iinc rfl h
theorem e_126_82 {ls : ab_L} {st : List Value} {w : ab_W} : ab_Run ab_mt 126 82 ls st w = ab_Run ab_mt 126 9 ls st w := E_goto rfl
theorem e_126_85 {ls : ab_L} {st : List Value} {w : ab_W} (h : ab_isR (ls 0) = true) : ab_Run ab_mt 126 85 ls st w = ab_Run ab_mt 126 86 ls (ab_gv (ls 0) :: st) w := E_loadr (n := 1) rfl h
theorem e_126_86 {ls : ab_L} {st : List Value} {w : ab_W} {a : Nat} (h : ab_isF 7 1 (w.2 a) = true) : ab_Run ab_mt 126 86 ls (.ref a :: st) w = ab_Run ab_mt 126 89 ls (ab_fv 1 (w.2 a) :: st) w := E_get rfl h
theorem e_126_89 {ls : ab_L} {st : List Value} {w : ab_W} : ab_Run ab_mt 126 89 ls st w = ab_Run ab_mt 126 92 ls (.int (nI 192) :: st) w := E_push (n := 3) rfl
theorem e_126_92 {ls : ab_L} {st : List Value} {w : ab_W} (h : ab_isI (ls 1) = true) : ab_Run ab_mt 126 92 ls st w = ab_Run ab_mt 126 93 ls (ab_gv (ls 1) :: st) w := E_loadi (n := 1) rfl h
theorem e_126_93 {ls : ab_L} {st : List Value} {w : ab_W} {a : Nat} {i x : Int32} (h : ab_inW i (w.2 a) = true) : ab_Run ab_mt 126 93 ls (.int x :: .int i :: .ref a :: st) w = ab_Run ab_mt 126 94 ls st (w.1, ab_up w.2 a (ab_sI i.toNatClampNeg x (w.2 a))) := E_iast rfl h
theorem e_126_94 {ls : ab_L} {w : ab_W} : ab_Run ab_mt 126 94 ls [] w = some (.inl none, w) := E_ret0 rfl
theorem rv_126 {σ : ab_S} {t : Nat} : ab_recv ab_mt 126 [.ref t] σ = ab_isO 7 (σ t) := rfl
theorem e_127_0 {ls : ab_L} {st : List Value} {w : ab_W} (h : ab_isR (ls 0) = true) : ab_Run ab_mt 127 0 ls st w = ab_Run ab_mt 127 1 ls (ab_gv (ls 0) :: st) w := E_loadr (n := 1) rfl h
theorem e_127_1 {ls : ab_L} {st : List Value} {w : ab_W} (h : ab_isR (ls 0) = true) : ab_Run ab_mt 127 1 ls st w = ab_Run ab_mt 127 2 ls (ab_gv (ls 0) :: st) w := E_loadr (n := 1) rfl h
theorem e_127_2 {ls : ab_L} {st : List Value} {w : ab_W} {a : Nat} (h : ab_isF 7 9 (w.2 a) = true) : ab_Run ab_mt 127 2 ls (.ref a :: st) w = ab_Run ab_mt 127 5 ls (ab_fv 9 (w.2 a) :: st) w := E_get rfl h
theorem e_127_5 {ls : ab_L} {st : List Value} {w : ab_W} {x : Int32} : ab_Run ab_mt 127 5 ls (.int x :: st) w = if x = 0 then ab_Run ab_mt 127 12 ls st w else ab_Run ab_mt 127 8 ls st w := E_if_eq rfl
theorem e_127_8 {ls : ab_L} {st : List Value} {w : ab_W} : ab_Run ab_mt 127 8 ls st w = ab_Run ab_mt 127 9 ls (.int (nI 1) :: st) w := E_push (n := 1) rfl
theorem e_127_9 {ls : ab_L} {st : List Value} {w : ab_W} : ab_Run ab_mt 127 9 ls st w = ab_Run ab_mt 127 13 ls st w := E_goto rfl
theorem e_127_12 {ls : ab_L} {st : List Value} {w : ab_W} : ab_Run ab_mt 127 12 ls st w = ab_Run ab_mt 127 13 ls (.int (nI 0) :: st) w := E_push (n := 1) rfl
theorem e_127_13 {ls : ab_L} {st : List Value} {w : ab_W} {a : Nat} {x : Int32} (h : ab_isF 7 0 (w.2 a) = true) : ab_Run ab_mt 127 13 ls (.int x :: .ref a :: st) w = ab_Run ab_mt 127 16 ls st (w.1, ab_up w.2 a (ab_sf 0 (.int x) (w.2 a))) := E_put rfl h rfl
theorem e_127_16 {ls : ab_L} {st : List Value} {w : ab_W} (h : ab_isR (ls 0) = true) : ab_Run ab_mt 127 16 ls st w = ab_Run ab_mt 127 17 ls (ab_gv (ls 0) :: st) w := E_loadr (n := 1) rfl h
theorem e_127_17 {ls : ab_L} {st : List Value} {w : ab_W} {a : Nat} (h : ab_isF 7 0 (w.2 a) = true) : ab_Run ab_mt 127 17 ls (.ref a :: st) w = ab_Run ab_mt 127 20 ls (ab_fv 0 (w.2 a) :: st) w := E_get rfl h
theorem e_127_20 {ls : ab_L} {st : List Value} {w : ab_W} {x : Int32} : ab_Run ab_mt 127 20 ls (.int x :: st) w = if x ≤ 0 then ab_Run ab_mt 127 25 ls st w else ab_Run ab_mt 127 23 ls st w := E_if_le rfl
theorem e_127_23 {ls : ab_L} {st : List Value} {w : ab_W} : ab_Run ab_mt 127 23 ls st w = ab_Run ab_mt 127 24 ls (.int (nI 0) :: st) w := E_push (n := 1) rfl
theorem e_127_24 {ls : ab_L} {w : ab_W} {x : Int32} : ab_Run ab_mt 127 24 ls [.int x] w = some (.inl (some (.int x)), w) := E_reti rfl
theorem e_127_25 {ls : ab_L} {st : List Value} {w : ab_W} (h : ab_isR (ls 0) = true) : ab_Run ab_mt 127 25 ls st w = ab_Run ab_mt 127 26 ls (ab_gv (ls 0) :: st) w := E_loadr (n := 1) rfl h
theorem e_127_26 {ls : ab_L} {st : List Value} {w : ab_W} {v0 : Value} (h1 : ab_recv ab_mt 117 [v0] w.2 = true) (h8 : ab_w8 st = true) : ab_Run ab_mt 127 26 ls (v0 :: st) w = ab_aft 117 127 26 ls st (ab_Cl 117 [v0] w) := E_call1 rfl h1 h8
theorem e_127_29 {ls : ab_L} {st : List Value} {w : ab_W} (h : ab_isR (ls 0) = true) : ab_Run ab_mt 127 29 ls st w = ab_Run ab_mt 127 30 ls (ab_gv (ls 0) :: st) w := E_loadr (n := 1) rfl h
theorem e_127_30 {ls : ab_L} {st : List Value} {w : ab_W} {v0 : Value} (h1 : ab_recv ab_mt 108 [v0] w.2 = true) (h8 : ab_w8 st = true) : ab_Run ab_mt 127 30 ls (v0 :: st) w = ab_aft 108 127 30 ls st (ab_Cl 108 [v0] w) := E_call1 rfl h1 h8
theorem e_127_33 {ls : ab_L} {st : List Value} {w : ab_W} {x : Int32} : ab_Run ab_mt 127 33 ls (.int x :: st) w = ab_Run ab_mt 127 34 (ab_l1 ls 1 (.int x)) st w := E_stori (n := 1) rfl
theorem e_127_34 {ls : ab_L} {st : List Value} {w : ab_W} (h : ab_isR (ls 0) = true) : ab_Run ab_mt 127 34 ls st w = ab_Run ab_mt 127 35 ls (ab_gv (ls 0) :: st) w := E_loadr (n := 1) rfl h
theorem e_127_35 {ls : ab_L} {st : List Value} {w : ab_W} {a : Nat} (h : ab_isF 7 1 (w.2 a) = true) : ab_Run ab_mt 127 35 ls (.ref a :: st) w = ab_Run ab_mt 127 38 ls (ab_fv 1 (w.2 a) :: st) w := E_get rfl h
theorem e_127_38 {ls : ab_L} {st : List Value} {w : ab_W} : ab_Run ab_mt 127 38 ls st w = ab_Run ab_mt 127 41 ls (.int (nI 190) :: st) w := E_push (n := 3) rfl
theorem e_127_41 {ls : ab_L} {st : List Value} {w : ab_W} : ab_Run ab_mt 127 41 ls st w = ab_Run ab_mt 127 42 ls (.int (nI 0) :: st) w := E_push (n := 1) rfl
theorem e_127_42 {ls : ab_L} {st : List Value} {w : ab_W} {a : Nat} {i x : Int32} (h : ab_inW i (w.2 a) = true) : ab_Run ab_mt 127 42 ls (.int x :: .int i :: .ref a :: st) w = ab_Run ab_mt 127 43 ls st (w.1, ab_up w.2 a (ab_sI i.toNatClampNeg x (w.2 a))) := E_iast rfl h
theorem e_127_43 {ls : ab_L} {st : List Value} {w : ab_W} (h : ab_isR (ls 0) = true) : ab_Run ab_mt 127 43 ls st w = ab_Run ab_mt 127 44 ls (ab_gv (ls 0) :: st) w := E_loadr (n := 1) rfl h
theorem e_127_44 {ls : ab_L} {st : List Value} {w : ab_W} {a : Nat} (h : ab_isF 7 1 (w.2 a) = true) : ab_Run ab_mt 127 44 ls (.ref a :: st) w = ab_Run ab_mt 127 47 ls (ab_fv 1 (w.2 a) :: st) w := E_get rfl h
theorem e_127_47 {ls : ab_L} {st : List Value} {w : ab_W} : ab_Run ab_mt 127 47 ls st w = ab_Run ab_mt 127 50 ls (.int (nI 191) :: st) w := E_push (n := 3) rfl
theorem e_127_50 {ls : ab_L} {st : List Value} {w : ab_W} : ab_Run ab_mt 127 50 ls st w = ab_Run ab_mt 127 51 ls (.int (nI 0) :: st) w := E_push (n := 1) rfl
theorem e_127_51 {ls : ab_L} {st : List Value} {w : ab_W} {a : Nat} {i x : Int32} (h : ab_inW i (w.2 a) = true) : ab_Run ab_mt 127 51 ls (.int x :: .int i :: .ref a :: st) w = ab_Run ab_mt 127 52 ls st (w.1, ab_up w.2 a (ab_sI i.toNatClampNeg x (w.2 a))) := E_iast rfl h
theorem e_127_52 {ls : ab_L} {st : List Value} {w : ab_W} (h : ab_isR (ls 0) = true) : ab_Run ab_mt 127 52 ls st w = ab_Run ab_mt 127 53 ls (ab_gv (ls 0) :: st) w := E_loadr (n := 1) rfl h
theorem e_127_53 {ls : ab_L} {st : List Value} {w : ab_W} {a : Nat} (h : ab_isF 7 1 (w.2 a) = true) : ab_Run ab_mt 127 53 ls (.ref a :: st) w = ab_Run ab_mt 127 56 ls (ab_fv 1 (w.2 a) :: st) w := E_get rfl h
theorem e_127_56 {ls : ab_L} {st : List Value} {w : ab_W} : ab_Run ab_mt 127 56 ls st w = ab_Run ab_mt 127 59 ls (.int (nI 192) :: st) w := E_push (n := 3) rfl
theorem e_127_59 {ls : ab_L} {st : List Value} {w : ab_W} : ab_Run ab_mt 127 59 ls st w = ab_Run ab_mt 127 60 ls (.int (nI 0) :: st) w := E_push (n := 1) rfl
theorem e_127_60 {ls : ab_L} {st : List Value} {w : ab_W} {a : Nat} {i x : Int32} (h : ab_inW i (w.2 a) = true) : ab_Run ab_mt 127 60 ls (.int x :: .int i :: .ref a :: st) w = ab_Run ab_mt 127 61 ls st (w.1, ab_up w.2 a (ab_sI i.toNatClampNeg x (w.2 a))) := E_iast rfl h
theorem e_127_61 {ls : ab_L} {st : List Value} {w : ab_W} (h : ab_isI (ls 1) = true) : ab_Run ab_mt 127 61 ls st w = ab_Run ab_mt 127 62 ls (ab_gv (ls 1) :: st) w := E_loadi (n := 1) rfl h
theorem e_127_62 {ls : ab_L} {w : ab_W} {x : Int32} : ab_Run ab_mt 127 62 ls [.int x] w = some (.inl (some (.int x)), w) := E_reti rfl
theorem rv_127 {σ : ab_S} {t : Nat} : ab_recv ab_mt 127 [.ref t] σ = ab_isO 7 (σ t) := rfl
theorem e_128_0 {ls : ab_L} {st : List Value} {w : ab_W} : ab_Run ab_mt 128 0 ls st w = ab_Run ab_mt 128 1 ls (.int (nI 5) :: st) w := E_push (n := 1) rfl
theorem e_128_1 {ls : ab_L} {st : List Value} {w : ab_W} (h : ab_isR (ls 0) = true) : ab_Run ab_mt 128 1 ls st w = ab_Run ab_mt 128 2 ls (ab_gv (ls 0) :: st) w := E_loadr (n := 1) rfl h
theorem e_128_2 {ls : ab_L} {st : List Value} {w : ab_W} {v0 : Value} (h1 : ab_recv ab_mt 108 [v0] w.2 = true) (h8 : ab_w8 st = true) : ab_Run ab_mt 128 2 ls (v0 :: st) w = ab_aft 108 128 2 ls st (ab_Cl 108 [v0] w) := E_call1 rfl h1 h8
theorem e_128_5 {ls : ab_L} {st : List Value} {w : ab_W} {x y : Int32} : ab_Run ab_mt 128 5 ls (.int y :: .int x :: st) w = ab_Run ab_mt 128 6 ls (.int (x * y) :: st) w := E_ib (f := fun x y => x * y) rfl
theorem e_128_6 {ls : ab_L} {st : List Value} {w : ab_W} {x : Int32} : ab_Run ab_mt 128 6 ls (.int x :: st) w = ab_Run ab_mt 128 8 (ab_l1 ls 5 (.int x)) st w := E_stori (n := 2) rfl
theorem e_128_8 {ls : ab_L} {st : List Value} {w : ab_W} (h : ab_isR (ls 0) = true) : ab_Run ab_mt 128 8 ls st w = ab_Run ab_mt 128 9 ls (ab_gv (ls 0) :: st) w := E_loadr (n := 1) rfl h
theorem e_128_9 {ls : ab_L} {st : List Value} {w : ab_W} {a : Nat} (h : ab_isF 7 1 (w.2 a) = true) : ab_Run ab_mt 128 9 ls (.ref a :: st) w = ab_Run ab_mt 128 12 ls (ab_fv 1 (w.2 a) :: st) w := E_get rfl h
theorem e_128_12 {ls : ab_L} {st : List Value} {w : ab_W} (h : ab_isI (ls 5) = true) : ab_Run ab_mt 128 12 ls st w = ab_Run ab_mt 128 14 ls (ab_gv (ls 5) :: st) w := E_loadi (n := 2) rfl h
theorem e_128_14 {ls : ab_L} {st : List Value} {w : ab_W} (h : ab_isI (ls 1) = true) : ab_Run ab_mt 128 14 ls st w = ab_Run ab_mt 128 15 ls (ab_gv (ls 1) :: st) w := E_loadi (n := 1) rfl h
theorem e_128_15 {ls : ab_L} {st : List Value} {w : ab_W} {a : Nat} {i x : Int32} (h : ab_inW i (w.2 a) = true) : ab_Run ab_mt 128 15 ls (.int x :: .int i :: .ref a :: st) w = ab_Run ab_mt 128 16 ls st (w.1, ab_up w.2 a (ab_sI i.toNatClampNeg x (w.2 a))) := E_iast rfl h
theorem e_128_16 {ls : ab_L} {st : List Value} {w : ab_W} (h : ab_isR (ls 0) = true) : ab_Run ab_mt 128 16 ls st w = ab_Run ab_mt 128 17 ls (ab_gv (ls 0) :: st) w := E_loadr (n := 1) rfl h
theorem e_128_17 {ls : ab_L} {st : List Value} {w : ab_W} {a : Nat} (h : ab_isF 7 1 (w.2 a) = true) : ab_Run ab_mt 128 17 ls (.ref a :: st) w = ab_Run ab_mt 128 20 ls (ab_fv 1 (w.2 a) :: st) w := E_get rfl h
theorem e_128_20 {ls : ab_L} {st : List Value} {w : ab_W} (h : ab_isI (ls 5) = true) : ab_Run ab_mt 128 20 ls st w = ab_Run ab_mt 128 22 ls (ab_gv (ls 5) :: st) w := E_loadi (n := 2) rfl h
theorem e_128_22 {ls : ab_L} {st : List Value} {w : ab_W} : ab_Run ab_mt 128 22 ls st w = ab_Run ab_mt 128 23 ls (.int (nI 1) :: st) w := E_push (n := 1) rfl
theorem e_128_23 {ls : ab_L} {st : List Value} {w : ab_W} {x y : Int32} : ab_Run ab_mt 128 23 ls (.int y :: .int x :: st) w = ab_Run ab_mt 128 24 ls (.int (x + y) :: st) w := E_ib (f := fun x y => x + y) rfl
theorem e_128_24 {ls : ab_L} {st : List Value} {w : ab_W} (h : ab_isI (ls 2) = true) : ab_Run ab_mt 128 24 ls st w = ab_Run ab_mt 128 25 ls (ab_gv (ls 2) :: st) w := E_loadi (n := 1) rfl h
theorem e_128_25 {ls : ab_L} {st : List Value} {w : ab_W} {a : Nat} {i x : Int32} (h : ab_inW i (w.2 a) = true) : ab_Run ab_mt 128 25 ls (.int x :: .int i :: .ref a :: st) w = ab_Run ab_mt 128 26 ls st (w.1, ab_up w.2 a (ab_sI i.toNatClampNeg x (w.2 a))) := E_iast rfl h
theorem e_128_26 {ls : ab_L} {st : List Value} {w : ab_W} (h : ab_isR (ls 0) = true) : ab_Run ab_mt 128 26 ls st w = ab_Run ab_mt 128 27 ls (ab_gv (ls 0) :: st) w := E_loadr (n := 1) rfl h
theorem e_128_27 {ls : ab_L} {st : List Value} {w : ab_W} {a : Nat} (h : ab_isF 7 1 (w.2 a) = true) : ab_Run ab_mt 128 27 ls (.ref a :: st) w = ab_Run ab_mt 128 30 ls (ab_fv 1 (w.2 a) :: st) w := E_get rfl h
theorem e_128_30 {ls : ab_L} {st : List Value} {w : ab_W} (h : ab_isI (ls 5) = true) : ab_Run ab_mt 128 30 ls st w = ab_Run ab_mt 128 32 ls (ab_gv (ls 5) :: st) w := E_loadi (n := 2) rfl h
theorem e_128_32 {ls : ab_L} {st : List Value} {w : ab_W} : ab_Run ab_mt 128 32 ls st w = ab_Run ab_mt 128 33 ls (.int (nI 2) :: st) w := E_push (n := 1) rfl
theorem e_128_33 {ls : ab_L} {st : List Value} {w : ab_W} {x y : Int32} : ab_Run ab_mt 128 33 ls (.int y :: .int x :: st) w = ab_Run ab_mt 128 34 ls (.int (x + y) :: st) w := E_ib (f := fun x y => x + y) rfl
theorem e_128_34 {ls : ab_L} {st : List Value} {w : ab_W} (h : ab_isI (ls 3) = true) : ab_Run ab_mt 128 34 ls st w = ab_Run ab_mt 128 35 ls (ab_gv (ls 3) :: st) w := E_loadi (n := 1) rfl h
theorem e_128_35 {ls : ab_L} {st : List Value} {w : ab_W} {a : Nat} {i x : Int32} (h : ab_inW i (w.2 a) = true) : ab_Run ab_mt 128 35 ls (.int x :: .int i :: .ref a :: st) w = ab_Run ab_mt 128 36 ls st (w.1, ab_up w.2 a (ab_sI i.toNatClampNeg x (w.2 a))) := E_iast rfl h
theorem e_128_36 {ls : ab_L} {st : List Value} {w : ab_W} (h : ab_isR (ls 0) = true) : ab_Run ab_mt 128 36 ls st w = ab_Run ab_mt 128 37 ls (ab_gv (ls 0) :: st) w := E_loadr (n := 1) rfl h
theorem e_128_37 {ls : ab_L} {st : List Value} {w : ab_W} {a : Nat} (h : ab_isF 7 1 (w.2 a) = true) : ab_Run ab_mt 128 37 ls (.ref a :: st) w = ab_Run ab_mt 128 40 ls (ab_fv 1 (w.2 a) :: st) w := E_get rfl h
theorem e_128_40 {ls : ab_L} {st : List Value} {w : ab_W} (h : ab_isI (ls 5) = true) : ab_Run ab_mt 128 40 ls st w = ab_Run ab_mt 128 42 ls (ab_gv (ls 5) :: st) w := E_loadi (n := 2) rfl h
theorem e_128_42 {ls : ab_L} {st : List Value} {w : ab_W} : ab_Run ab_mt 128 42 ls st w = ab_Run ab_mt 128 43 ls (.int (nI 3) :: st) w := E_push (n := 1) rfl
theorem e_128_43 {ls : ab_L} {st : List Value} {w : ab_W} {x y : Int32} : ab_Run ab_mt 128 43 ls (.int y :: .int x :: st) w = ab_Run ab_mt 128 44 ls (.int (x + y) :: st) w := E_ib (f := fun x y => x + y) rfl
theorem e_128_44 {ls : ab_L} {st : List Value} {w : ab_W} (h : ab_isI (ls 4) = true) : ab_Run ab_mt 128 44 ls st w = ab_Run ab_mt 128 46 ls (ab_gv (ls 4) :: st) w := E_loadi (n := 2) rfl h
theorem e_128_46 {ls : ab_L} {st : List Value} {w : ab_W} {a : Nat} {i x : Int32} (h : ab_inW i (w.2 a) = true) : ab_Run ab_mt 128 46 ls (.int x :: .int i :: .ref a :: st) w = ab_Run ab_mt 128 47 ls st (w.1, ab_up w.2 a (ab_sI i.toNatClampNeg x (w.2 a))) := E_iast rfl h
theorem e_128_47 {ls : ab_L} {st : List Value} {w : ab_W} (h : ab_isR (ls 0) = true) : ab_Run ab_mt 128 47 ls st w = ab_Run ab_mt 128 48 ls (ab_gv (ls 0) :: st) w := E_loadr (n := 1) rfl h
theorem e_128_48 {ls : ab_L} {st : List Value} {w : ab_W} {a : Nat} (h : ab_isF 7 1 (w.2 a) = true) : ab_Run ab_mt 128 48 ls (.ref a :: st) w = ab_Run ab_mt 128 51 ls (ab_fv 1 (w.2 a) :: st) w := E_get rfl h
theorem e_128_51 {ls : ab_L} {st : List Value} {w : ab_W} (h : ab_isI (ls 5) = true) : ab_Run ab_mt 128 51 ls st w = ab_Run ab_mt 128 53 ls (ab_gv (ls 5) :: st) w := E_loadi (n := 2) rfl h
theorem e_128_53 {ls : ab_L} {st : List Value} {w : ab_W} : ab_Run ab_mt 128 53 ls st w = ab_Run ab_mt 128 54 ls (.int (nI 4) :: st) w := E_push (n := 1) rfl
theorem e_128_54 {ls : ab_L} {st : List Value} {w : ab_W} {x y : Int32} : ab_Run ab_mt 128 54 ls (.int y :: .int x :: st) w = ab_Run ab_mt 128 55 ls (.int (x + y) :: st) w := E_ib (f := fun x y => x + y) rfl
theorem e_128_55 {ls : ab_L} {st : List Value} {w : ab_W} : ab_Run ab_mt 128 55 ls st w = ab_Run ab_mt 128 56 ls (.int (nI 1) :: st) w := E_push (n := 1) rfl
theorem e_128_56 {ls : ab_L} {st : List Value} {w : ab_W} {a : Nat} {i x : Int32} (h : ab_inW i (w.2 a) = true) : ab_Run ab_mt 128 56 ls (.int x :: .int i :: .ref a :: st) w = ab_Run ab_mt 128 57 ls st (w.1, ab_up w.2 a (ab_sI i.toNatClampNeg x (w.2 a))) := E_iast rfl h
theorem e_128_57 {ls : ab_L} {st : List Value} {w : ab_W} (h : ab_isR (ls 0) = true) : ab_Run ab_mt 128 57 ls st w = ab_Run ab_mt 128 58 ls (ab_gv (ls 0) :: st) w := E_loadr (n := 1) rfl h
theorem e_128_58 {ls : ab_L} {st : List Value} {w : ab_W} {a : Nat} (h : ab_isF 7 1 (w.2 a) = true) : ab_Run ab_mt 128 58 ls (.ref a :: st) w = ab_Run ab_mt 128 61 ls (ab_fv 1 (w.2 a) :: st) w := E_get rfl h
theorem e_128_61 {ls : ab_L} {st : List Value} {w : ab_W} : ab_Run ab_mt 128 61 ls st w = ab_Run ab_mt 128 64 ls (.int (nI 190) :: st) w := E_push (n := 3) rfl
theorem e_128_64 {ls : ab_L} {st : List Value} {w : ab_W} {x : Nat} {y : Int32} : ab_Run ab_mt 128 64 ls (.int y :: .ref x :: st) w = ab_Run ab_mt 128 65 ls (.int y :: .ref x :: .int y :: .ref x :: st) w := E_dup2 rfl
theorem e_128_65 {ls : ab_L} {st : List Value} {w : ab_W} {a : Nat} {i : Int32} (h : ab_inI i (w.2 a) = true) : ab_Run ab_mt 128 65 ls (.int i :: .ref a :: st) w = ab_Run ab_mt 128 66 ls (.int (ab_aI i.toNatClampNeg (w.2 a)) :: st) w := E_iald rfl h
theorem e_128_66 {ls : ab_L} {st : List Value} {w : ab_W} : ab_Run ab_mt 128 66 ls st w = ab_Run ab_mt 128 67 ls (.int (nI 1) :: st) w := E_push (n := 1) rfl
theorem e_128_67 {ls : ab_L} {st : List Value} {w : ab_W} {x y : Int32} : ab_Run ab_mt 128 67 ls (.int y :: .int x :: st) w = ab_Run ab_mt 128 68 ls (.int (x + y) :: st) w := E_ib (f := fun x y => x + y) rfl
theorem e_128_68 {ls : ab_L} {st : List Value} {w : ab_W} {a : Nat} {i x : Int32} (h : ab_inW i (w.2 a) = true) : ab_Run ab_mt 128 68 ls (.int x :: .int i :: .ref a :: st) w = ab_Run ab_mt 128 69 ls st (w.1, ab_up w.2 a (ab_sI i.toNatClampNeg x (w.2 a))) := E_iast rfl h
theorem e_128_69 {ls : ab_L} {w : ab_W} : ab_Run ab_mt 128 69 ls [] w = some (.inl none, w) := E_ret0 rfl
theorem rv_128 {σ : ab_S} {t : Nat} {x0 : Int32} {x1 : Int32} {x2 : Int32} {x3 : Int32} : ab_recv ab_mt 128 [.ref t, .int x0, .int x1, .int x2, .int x3] σ = ab_isO 7 (σ t) := rfl
theorem e_129_0 {ls : ab_L} {st : List Value} {w : ab_W} (h : ab_isR (ls 0) = true) : ab_Run ab_mt 129 0 ls st w = ab_Run ab_mt 129 1 ls (ab_gv (ls 0) :: st) w := E_loadr (n := 1) rfl h
theorem e_129_1 {ls : ab_L} {st : List Value} {w : ab_W} (h : ab_isI (ls 1) = true) : ab_Run ab_mt 129 1 ls st w = ab_Run ab_mt 129 2 ls (ab_gv (ls 1) :: st) w := E_loadi (n := 1) rfl h
theorem e_129_2 {ls : ab_L} {st : List Value} {w : ab_W} {x : Int32} : ab_Run ab_mt 129 2 ls (.int x :: st) w = ab_Run ab_mt 129 3 ls (.long x.toInt64 :: st) w := E_i2l rfl
theorem e_129_3 {ls : ab_L} {st : List Value} {w : ab_W} : ab_Run ab_mt 129 3 ls st w = ab_Run ab_mt 129 4 ls (.long (lN 1) :: st) w := E_push (n := 1) rfl
theorem e_129_4 {ls : ab_L} {st : List Value} {w : ab_W} : ab_Run ab_mt 129 4 ls st w = ab_Run ab_mt 129 7 ls (.long (lN 12) :: st) w := E_push (n := 3) rfl
theorem e_129_7 {ls : ab_L} {st : List Value} {w : ab_W} {v0 v1 v2 : Value} (h1 : ab_recv ab_mt 107 [v0, v1, v2] w.2 = true) (h8 : ab_w8 st = true) : ab_Run ab_mt 129 7 ls (v2 :: v1 :: v0 :: st) w = ab_aft 107 129 7 ls st (ab_Cl 107 [v0, v1, v2] w) := E_call3 rfl h1 h8
theorem e_129_10 {ls : ab_L} {st : List Value} {w : ab_W} {x : Int32} : ab_Run ab_mt 129 10 ls (.int x :: st) w = if x = 0 then ab_Run ab_mt 129 25 ls st w else ab_Run ab_mt 129 13 ls st w := E_if_eq rfl
theorem e_129_13 {ls : ab_L} {st : List Value} {w : ab_W} (h : ab_isI (ls 2) = true) : ab_Run ab_mt 129 13 ls st w = ab_Run ab_mt 129 14 ls (ab_gv (ls 2) :: st) w := E_loadi (n := 1) rfl h
theorem e_129_14 {ls : ab_L} {st : List Value} {w : ab_W} {x : Int32} : ab_Run ab_mt 129 14 ls (.int x :: st) w = ab_Run ab_mt 129 15 ls (.long x.toInt64 :: st) w := E_i2l rfl
theorem e_129_15 {ls : ab_L} {st : List Value} {w : ab_W} : ab_Run ab_mt 129 15 ls st w = ab_Run ab_mt 129 16 ls (.long (lN 1) :: st) w := E_push (n := 1) rfl
theorem e_129_16 {ls : ab_L} {st : List Value} {w : ab_W} : ab_Run ab_mt 129 16 ls st w = ab_Run ab_mt 129 19 ls (.long (lN 8) :: st) w := E_push (n := 3) rfl
theorem e_129_19 {ls : ab_L} {st : List Value} {w : ab_W} {v0 v1 v2 : Value} (h1 : ab_recv ab_mt 107 [v0, v1, v2] w.2 = true) (h8 : ab_w8 st = true) : ab_Run ab_mt 129 19 ls (v2 :: v1 :: v0 :: st) w = ab_aft 107 129 19 ls st (ab_Cl 107 [v0, v1, v2] w) := E_call3 rfl h1 h8
theorem e_129_22 {ls : ab_L} {st : List Value} {w : ab_W} {x : Int32} : ab_Run ab_mt 129 22 ls (.int x :: st) w = if x = 0 then ab_Run ab_mt 129 25 ls st w else ab_Run ab_mt 129 29 ls st w := E_if_ne rfl
theorem e_129_25 {ls : ab_L} {st : List Value} {w : ab_W} : ab_Run ab_mt 129 25 ls st w = ab_Run ab_mt 129 26 ls (.int (nI 1) :: st) w := E_push (n := 1) rfl
theorem e_129_26 {ls : ab_L} {st : List Value} {w : ab_W} : ab_Run ab_mt 129 26 ls st w = ab_Run ab_mt 129 50 ls st w := E_goto rfl
theorem e_129_29 {ls : ab_L} {st : List Value} {w : ab_W} (h : ab_isR (ls 0) = true) : ab_Run ab_mt 129 29 ls st w = ab_Run ab_mt 129 30 ls (ab_gv (ls 0) :: st) w := E_loadr (n := 1) rfl h
theorem e_129_30 {ls : ab_L} {st : List Value} {w : ab_W} {a : Nat} (h : ab_isF 7 9 (w.2 a) = true) : ab_Run ab_mt 129 30 ls (.ref a :: st) w = ab_Run ab_mt 129 33 ls (ab_fv 9 (w.2 a) :: st) w := E_get rfl h
theorem e_129_33 {ls : ab_L} {st : List Value} {w : ab_W} {x : Int32} : ab_Run ab_mt 129 33 ls (.int x :: st) w = if x = 0 then ab_Run ab_mt 129 36 ls st w else ab_Run ab_mt 129 45 ls st w := E_if_ne rfl
theorem e_129_36 {ls : ab_L} {st : List Value} {w : ab_W} (h : ab_isR (ls 0) = true) : ab_Run ab_mt 129 36 ls st w = ab_Run ab_mt 129 37 ls (ab_gv (ls 0) :: st) w := E_loadr (n := 1) rfl h
theorem e_129_37 {ls : ab_L} {st : List Value} {w : ab_W} {v0 : Value} (h1 : ab_recv ab_mt 108 [v0] w.2 = true) (h8 : ab_w8 st = true) : ab_Run ab_mt 129 37 ls (v0 :: st) w = ab_aft 108 129 37 ls st (ab_Cl 108 [v0] w) := E_call1 rfl h1 h8
theorem e_129_40 {ls : ab_L} {st : List Value} {w : ab_W} : ab_Run ab_mt 129 40 ls st w = ab_Run ab_mt 129 42 ls (.int (nI 24) :: st) w := E_push (n := 2) rfl
theorem e_129_42 {ls : ab_L} {st : List Value} {w : ab_W} {x y : Int32} : ab_Run ab_mt 129 42 ls (.int y :: .int x :: st) w = if x = y then ab_Run ab_mt 129 45 ls st w else ab_Run ab_mt 129 49 ls st w := E_ic_ne rfl
theorem e_129_45 {ls : ab_L} {st : List Value} {w : ab_W} : ab_Run ab_mt 129 45 ls st w = ab_Run ab_mt 129 46 ls (.int (nI 2) :: st) w := E_push (n := 1) rfl
theorem e_129_46 {ls : ab_L} {st : List Value} {w : ab_W} : ab_Run ab_mt 129 46 ls st w = ab_Run ab_mt 129 50 ls st w := E_goto rfl
theorem e_129_49 {ls : ab_L} {st : List Value} {w : ab_W} : ab_Run ab_mt 129 49 ls st w = ab_Run ab_mt 129 50 ls (.int (nI 0) :: st) w := E_push (n := 1) rfl
theorem e_129_50 {ls : ab_L} {st : List Value} {w : ab_W} {a : Nat} {x : Int32} (h : ab_isF 7 0 (w.2 a) = true) : ab_Run ab_mt 129 50 ls (.int x :: .ref a :: st) w = ab_Run ab_mt 129 53 ls st (w.1, ab_up w.2 a (ab_sf 0 (.int x) (w.2 a))) := E_put rfl h rfl
theorem e_129_53 {ls : ab_L} {st : List Value} {w : ab_W} (h : ab_isR (ls 0) = true) : ab_Run ab_mt 129 53 ls st w = ab_Run ab_mt 129 54 ls (ab_gv (ls 0) :: st) w := E_loadr (n := 1) rfl h
theorem e_129_54 {ls : ab_L} {st : List Value} {w : ab_W} {a : Nat} (h : ab_isF 7 0 (w.2 a) = true) : ab_Run ab_mt 129 54 ls (.ref a :: st) w = ab_Run ab_mt 129 57 ls (ab_fv 0 (w.2 a) :: st) w := E_get rfl h
theorem e_129_57 {ls : ab_L} {st : List Value} {w : ab_W} {x : Int32} : ab_Run ab_mt 129 57 ls (.int x :: st) w = if x ≤ 0 then ab_Run ab_mt 129 62 ls st w else ab_Run ab_mt 129 60 ls st w := E_if_le rfl
theorem e_129_60 {ls : ab_L} {st : List Value} {w : ab_W} : ab_Run ab_mt 129 60 ls st w = ab_Run ab_mt 129 61 ls (.int (nI 0) :: st) w := E_push (n := 1) rfl
theorem e_129_61 {ls : ab_L} {w : ab_W} {x : Int32} : ab_Run ab_mt 129 61 ls [.int x] w = some (.inl (some (.int x)), w) := E_reti rfl
theorem e_129_62 {ls : ab_L} {st : List Value} {w : ab_W} (h : ab_isR (ls 0) = true) : ab_Run ab_mt 129 62 ls st w = ab_Run ab_mt 129 63 ls (ab_gv (ls 0) :: st) w := E_loadr (n := 1) rfl h
theorem e_129_63 {ls : ab_L} {st : List Value} {w : ab_W} {v0 : Value} (h1 : ab_recv ab_mt 117 [v0] w.2 = true) (h8 : ab_w8 st = true) : ab_Run ab_mt 129 63 ls (v0 :: st) w = ab_aft 117 129 63 ls st (ab_Cl 117 [v0] w) := E_call1 rfl h1 h8
theorem e_129_66 {ls : ab_L} {st : List Value} {w : ab_W} (h : ab_isR (ls 0) = true) : ab_Run ab_mt 129 66 ls st w = ab_Run ab_mt 129 67 ls (ab_gv (ls 0) :: st) w := E_loadr (n := 1) rfl h
theorem e_129_67 {ls : ab_L} {st : List Value} {w : ab_W} (h : ab_isI (ls 1) = true) : ab_Run ab_mt 129 67 ls st w = ab_Run ab_mt 129 68 ls (ab_gv (ls 1) :: st) w := E_loadi (n := 1) rfl h
theorem e_129_68 {ls : ab_L} {st : List Value} {w : ab_W} (h : ab_isI (ls 2) = true) : ab_Run ab_mt 129 68 ls st w = ab_Run ab_mt 129 69 ls (ab_gv (ls 2) :: st) w := E_loadi (n := 1) rfl h
theorem e_129_69 {ls : ab_L} {st : List Value} {w : ab_W} : ab_Run ab_mt 129 69 ls st w = ab_Run ab_mt 129 70 ls (.int (nI 0) :: st) w := E_push (n := 1) rfl
theorem e_129_70 {ls : ab_L} {st : List Value} {w : ab_W} : ab_Run ab_mt 129 70 ls st w = ab_Run ab_mt 129 71 ls (.int (nI 0) :: st) w := E_push (n := 1) rfl
theorem e_129_71 {ls : ab_L} {st : List Value} {w : ab_W} {v0 v1 v2 v3 v4 : Value} (h1 : ab_recv ab_mt 128 [v0, v1, v2, v3, v4] w.2 = true) (h8 : ab_w8 st = true) : ab_Run ab_mt 129 71 ls (v4 :: v3 :: v2 :: v1 :: v0 :: st) w = ab_aft 128 129 71 ls st (ab_Cl 128 [v0, v1, v2, v3, v4] w) := E_call5 rfl h1 h8
theorem e_129_74 {ls : ab_L} {st : List Value} {w : ab_W} (h : ab_isR (ls 0) = true) : ab_Run ab_mt 129 74 ls st w = ab_Run ab_mt 129 75 ls (ab_gv (ls 0) :: st) w := E_loadr (n := 1) rfl h
theorem e_129_75 {ls : ab_L} {st : List Value} {w : ab_W} {v0 : Value} (h1 : ab_recv ab_mt 108 [v0] w.2 = true) (h8 : ab_w8 st = true) : ab_Run ab_mt 129 75 ls (v0 :: st) w = ab_aft 108 129 75 ls st (ab_Cl 108 [v0] w) := E_call1 rfl h1 h8
theorem e_129_78 {ls : ab_L} {st : List Value} {w : ab_W} : ab_Run ab_mt 129 78 ls st w = ab_Run ab_mt 129 79 ls (.int (nI 1) :: st) w := E_push (n := 1) rfl
theorem e_129_79 {ls : ab_L} {st : List Value} {w : ab_W} {x y : Int32} : ab_Run ab_mt 129 79 ls (.int y :: .int x :: st) w = ab_Run ab_mt 129 80 ls (.int (x - y) :: st) w := E_ib (f := fun x y => x - y) rfl
theorem e_129_80 {ls : ab_L} {w : ab_W} {x : Int32} : ab_Run ab_mt 129 80 ls [.int x] w = some (.inl (some (.int x)), w) := E_reti rfl
theorem rv_129 {σ : ab_S} {t : Nat} {x0 : Int32} {x1 : Int32} : ab_recv ab_mt 129 [.ref t, .int x0, .int x1] σ = ab_isO 7 (σ t) := rfl
theorem e_130_0 {ls : ab_L} {st : List Value} {w : ab_W} (h : ab_isI (ls 0) = true) : ab_Run ab_mt 130 0 ls st w = ab_Run ab_mt 130 1 ls (ab_gv (ls 0) :: st) w := E_loadi (n := 1) rfl h
theorem e_130_1 {ls : ab_L} {st : List Value} {w : ab_W} {x : Int32} : ab_Run ab_mt 130 1 ls (.int x :: st) w = if x.toInt < 0 ∨ 3 < x.toInt then ab_Run ab_mt 130 86 ls st w else ab_Run ab_mt 130 (([32, 42, 52, 76] : List Nat).getD (x.toInt - 0).toNat 0) ls st w := E_swi rfl (by decide)
theorem e_130_32 {ls : ab_L} {st : List Value} {w : ab_W} (h : ab_isI (ls 1) = true) : ab_Run ab_mt 130 32 ls st w = ab_Run ab_mt 130 33 ls (ab_gv (ls 1) :: st) w := E_loadi (n := 1) rfl h
theorem e_130_33 {ls : ab_L} {st : List Value} {w : ab_W} {x : Int32} : ab_Run ab_mt 130 33 ls (.int x :: st) w = ab_Run ab_mt 130 34 ls (.long x.toInt64 :: st) w := E_i2l rfl
theorem e_130_34 {ls : ab_L} {st : List Value} {w : ab_W} : ab_Run ab_mt 130 34 ls st w = ab_Run ab_mt 130 35 ls (.long (lN 1) :: st) w := E_push (n := 1) rfl
theorem e_130_35 {ls : ab_L} {st : List Value} {w : ab_W} : ab_Run ab_mt 130 35 ls st w = ab_Run ab_mt 130 38 ls (.long (lN 12) :: st) w := E_push (n := 3) rfl
theorem e_130_38 {ls : ab_L} {st : List Value} {w : ab_W} {v0 v1 v2 : Value} (h1 : ab_recv ab_mt 107 [v0, v1, v2] w.2 = true) (h8 : ab_w8 st = true) : ab_Run ab_mt 130 38 ls (v2 :: v1 :: v0 :: st) w = ab_aft 107 130 38 ls st (ab_Cl 107 [v0, v1, v2] w) := E_call3 rfl h1 h8
theorem e_130_41 {ls : ab_L} {w : ab_W} {x : Int32} (h : ab_fitr 2 (.int x) = true) : ab_Run ab_mt 130 41 ls [.int x] w = some (.inl (some (.int x)), w) := E_retz rfl h
theorem e_130_42 {ls : ab_L} {st : List Value} {w : ab_W} (h : ab_isI (ls 1) = true) : ab_Run ab_mt 130 42 ls st w = ab_Run ab_mt 130 43 ls (ab_gv (ls 1) :: st) w := E_loadi (n := 1) rfl h
theorem e_130_43 {ls : ab_L} {st : List Value} {w : ab_W} {x : Int32} : ab_Run ab_mt 130 43 ls (.int x :: st) w = ab_Run ab_mt 130 44 ls (.long x.toInt64 :: st) w := E_i2l rfl
theorem e_130_44 {ls : ab_L} {st : List Value} {w : ab_W} : ab_Run ab_mt 130 44 ls st w = ab_Run ab_mt 130 45 ls (.long (lN 1) :: st) w := E_push (n := 1) rfl
theorem e_130_45 {ls : ab_L} {st : List Value} {w : ab_W} : ab_Run ab_mt 130 45 ls st w = ab_Run ab_mt 130 48 ls (.long (lN 8) :: st) w := E_push (n := 3) rfl
theorem e_130_48 {ls : ab_L} {st : List Value} {w : ab_W} {v0 v1 v2 : Value} (h1 : ab_recv ab_mt 107 [v0, v1, v2] w.2 = true) (h8 : ab_w8 st = true) : ab_Run ab_mt 130 48 ls (v2 :: v1 :: v0 :: st) w = ab_aft 107 130 48 ls st (ab_Cl 107 [v0, v1, v2] w) := E_call3 rfl h1 h8
theorem e_130_51 {ls : ab_L} {w : ab_W} {x : Int32} (h : ab_fitr 2 (.int x) = true) : ab_Run ab_mt 130 51 ls [.int x] w = some (.inl (some (.int x)), w) := E_retz rfl h
theorem e_130_52 {ls : ab_L} {st : List Value} {w : ab_W} (h : ab_isI (ls 1) = true) : ab_Run ab_mt 130 52 ls st w = ab_Run ab_mt 130 53 ls (ab_gv (ls 1) :: st) w := E_loadi (n := 1) rfl h
theorem e_130_53 {ls : ab_L} {st : List Value} {w : ab_W} {x : Int32} : ab_Run ab_mt 130 53 ls (.int x :: st) w = if x = 0 then ab_Run ab_mt 130 70 ls st w else ab_Run ab_mt 130 56 ls st w := E_if_eq rfl
theorem e_130_56 {ls : ab_L} {st : List Value} {w : ab_W} (h : ab_isI (ls 1) = true) : ab_Run ab_mt 130 56 ls st w = ab_Run ab_mt 130 57 ls (ab_gv (ls 1) :: st) w := E_loadi (n := 1) rfl h
theorem e_130_57 {ls : ab_L} {st : List Value} {w : ab_W} {x : Int32} : ab_Run ab_mt 130 57 ls (.int x :: st) w = ab_Run ab_mt 130 58 ls (.long x.toInt64 :: st) w := E_i2l rfl
theorem e_130_58 {ls : ab_L} {st : List Value} {w : ab_W} : ab_Run ab_mt 130 58 ls st w = ab_Run ab_mt 130 61 ls (.long (lN 100) :: st) w := E_push (n := 3) rfl
theorem e_130_61 {ls : ab_L} {st : List Value} {w : ab_W} : ab_Run ab_mt 130 61 ls st w = ab_Run ab_mt 130 64 ls (.long (lN 60000) :: st) w := E_push (n := 3) rfl
theorem e_130_64 {ls : ab_L} {st : List Value} {w : ab_W} {v0 v1 v2 : Value} (h1 : ab_recv ab_mt 107 [v0, v1, v2] w.2 = true) (h8 : ab_w8 st = true) : ab_Run ab_mt 130 64 ls (v2 :: v1 :: v0 :: st) w = ab_aft 107 130 64 ls st (ab_Cl 107 [v0, v1, v2] w) := E_call3 rfl h1 h8
theorem e_130_67 {ls : ab_L} {st : List Value} {w : ab_W} {x : Int32} : ab_Run ab_mt 130 67 ls (.int x :: st) w = if x = 0 then ab_Run ab_mt 130 74 ls st w else ab_Run ab_mt 130 70 ls st w := E_if_eq rfl
theorem e_130_70 {ls : ab_L} {st : List Value} {w : ab_W} : ab_Run ab_mt 130 70 ls st w = ab_Run ab_mt 130 71 ls (.int (nI 1) :: st) w := E_push (n := 1) rfl
theorem e_130_71 {ls : ab_L} {st : List Value} {w : ab_W} : ab_Run ab_mt 130 71 ls st w = ab_Run ab_mt 130 75 ls st w := E_goto rfl
theorem e_130_74 {ls : ab_L} {st : List Value} {w : ab_W} : ab_Run ab_mt 130 74 ls st w = ab_Run ab_mt 130 75 ls (.int (nI 0) :: st) w := E_push (n := 1) rfl
theorem e_130_75 {ls : ab_L} {w : ab_W} {x : Int32} (h : ab_fitr 2 (.int x) = true) : ab_Run ab_mt 130 75 ls [.int x] w = some (.inl (some (.int x)), w) := E_retz rfl h
theorem e_130_76 {ls : ab_L} {st : List Value} {w : ab_W} (h : ab_isI (ls 1) = true) : ab_Run ab_mt 130 76 ls st w = ab_Run ab_mt 130 77 ls (ab_gv (ls 1) :: st) w := E_loadi (n := 1) rfl h
theorem e_130_77 {ls : ab_L} {st : List Value} {w : ab_W} {x : Int32} : ab_Run ab_mt 130 77 ls (.int x :: st) w = ab_Run ab_mt 130 78 ls (.long x.toInt64 :: st) w := E_i2l rfl
theorem e_130_78 {ls : ab_L} {st : List Value} {w : ab_W} : ab_Run ab_mt 130 78 ls st w = ab_Run ab_mt 130 79 ls (.long (lN 0) :: st) w := E_push (n := 1) rfl
theorem e_130_79 {ls : ab_L} {st : List Value} {w : ab_W} : ab_Run ab_mt 130 79 ls st w = ab_Run ab_mt 130 82 ls (.long (lN 20000) :: st) w := E_push (n := 3) rfl
theorem e_130_82 {ls : ab_L} {st : List Value} {w : ab_W} {v0 v1 v2 : Value} (h1 : ab_recv ab_mt 107 [v0, v1, v2] w.2 = true) (h8 : ab_w8 st = true) : ab_Run ab_mt 130 82 ls (v2 :: v1 :: v0 :: st) w = ab_aft 107 130 82 ls st (ab_Cl 107 [v0, v1, v2] w) := E_call3 rfl h1 h8
theorem e_130_85 {ls : ab_L} {w : ab_W} {x : Int32} (h : ab_fitr 2 (.int x) = true) : ab_Run ab_mt 130 85 ls [.int x] w = some (.inl (some (.int x)), w) := E_retz rfl h
theorem e_130_86 {ls : ab_L} {st : List Value} {w : ab_W} (h : ab_isI (ls 1) = true) : ab_Run ab_mt 130 86 ls st w = ab_Run ab_mt 130 87 ls (ab_gv (ls 1) :: st) w := E_loadi (n := 1) rfl h
theorem e_130_87 {ls : ab_L} {st : List Value} {w : ab_W} {x : Int32} : ab_Run ab_mt 130 87 ls (.int x :: st) w = ab_Run ab_mt 130 88 ls (.long x.toInt64 :: st) w := E_i2l rfl
theorem e_130_88 {ls : ab_L} {st : List Value} {w : ab_W} : ab_Run ab_mt 130 88 ls st w = ab_Run ab_mt 130 89 ls (.long (lN 0) :: st) w := E_push (n := 1) rfl
theorem e_130_89 {ls : ab_L} {st : List Value} {w : ab_W} : ab_Run ab_mt 130 89 ls st w = ab_Run ab_mt 130 92 ls (.long (lN 4095) :: st) w := E_push (n := 3) rfl
theorem e_130_92 {ls : ab_L} {st : List Value} {w : ab_W} {v0 v1 v2 : Value} (h1 : ab_recv ab_mt 107 [v0, v1, v2] w.2 = true) (h8 : ab_w8 st = true) : ab_Run ab_mt 130 92 ls (v2 :: v1 :: v0 :: st) w = ab_aft 107 130 92 ls st (ab_Cl 107 [v0, v1, v2] w) := E_call3 rfl h1 h8
theorem e_130_95 {ls : ab_L} {w : ab_W} {x : Int32} (h : ab_fitr 2 (.int x) = true) : ab_Run ab_mt 130 95 ls [.int x] w = some (.inl (some (.int x)), w) := E_retz rfl h
theorem rv_130 {σ : ab_S} {x0 : Int32} {x1 : Int32} : ab_recv ab_mt 130 [.int x0, .int x1] σ = true := rfl
theorem e_131_0 {ls : ab_L} {st : List Value} {w : ab_W} (h : ab_isR (ls 0) = true) : ab_Run ab_mt 131 0 ls st w = ab_Run ab_mt 131 1 ls (ab_gv (ls 0) :: st) w := E_loadr (n := 1) rfl h
theorem e_131_1 {ls : ab_L} {st : List Value} {w : ab_W} (h : ab_isR (ls 0) = true) : ab_Run ab_mt 131 1 ls st w = ab_Run ab_mt 131 2 ls (ab_gv (ls 0) :: st) w := E_loadr (n := 1) rfl h
theorem e_131_2 {ls : ab_L} {st : List Value} {w : ab_W} (h : ab_isI (ls 1) = true) : ab_Run ab_mt 131 2 ls st w = ab_Run ab_mt 131 3 ls (ab_gv (ls 1) :: st) w := E_loadi (n := 1) rfl h
theorem e_131_3 {ls : ab_L} {st : List Value} {w : ab_W} {v0 v1 : Value} (h1 : ab_recv ab_mt 112 [v0, v1] w.2 = true) (h8 : ab_w8 st = true) : ab_Run ab_mt 131 3 ls (v1 :: v0 :: st) w = ab_aft 112 131 3 ls st (ab_Cl 112 [v0, v1] w) := E_call2 rfl h1 h8
theorem e_131_6 {ls : ab_L} {st : List Value} {w : ab_W} {x : Int32} : ab_Run ab_mt 131 6 ls (.int x :: st) w = if x = 0 then ab_Run ab_mt 131 21 ls st w else ab_Run ab_mt 131 9 ls st w := E_if_eq rfl
theorem e_131_9 {ls : ab_L} {st : List Value} {w : ab_W} (h : ab_isI (ls 2) = true) : ab_Run ab_mt 131 9 ls st w = ab_Run ab_mt 131 10 ls (ab_gv (ls 2) :: st) w := E_loadi (n := 1) rfl h
theorem e_131_10 {ls : ab_L} {st : List Value} {w : ab_W} {x : Int32} : ab_Run ab_mt 131 10 ls (.int x :: st) w = ab_Run ab_mt 131 11 ls (.long x.toInt64 :: st) w := E_i2l rfl
theorem e_131_11 {ls : ab_L} {st : List Value} {w : ab_W} : ab_Run ab_mt 131 11 ls st w = ab_Run ab_mt 131 12 ls (.long (lN 0) :: st) w := E_push (n := 1) rfl
theorem e_131_12 {ls : ab_L} {st : List Value} {w : ab_W} : ab_Run ab_mt 131 12 ls st w = ab_Run ab_mt 131 15 ls (.long (lN 4) :: st) w := E_push (n := 3) rfl
theorem e_131_15 {ls : ab_L} {st : List Value} {w : ab_W} {v0 v1 v2 : Value} (h1 : ab_recv ab_mt 107 [v0, v1, v2] w.2 = true) (h8 : ab_w8 st = true) : ab_Run ab_mt 131 15 ls (v2 :: v1 :: v0 :: st) w = ab_aft 107 131 15 ls st (ab_Cl 107 [v0, v1, v2] w) := E_call3 rfl h1 h8
theorem e_131_18 {ls : ab_L} {st : List Value} {w : ab_W} {x : Int32} : ab_Run ab_mt 131 18 ls (.int x :: st) w = if x = 0 then ab_Run ab_mt 131 21 ls st w else ab_Run ab_mt 131 25 ls st w := E_if_ne rfl
theorem e_131_21 {ls : ab_L} {st : List Value} {w : ab_W} : ab_Run ab_mt 131 21 ls st w = ab_Run ab_mt 131 22 ls (.int (nI 1) :: st) w := E_push (n := 1) rfl
theorem e_131_22 {ls : ab_L} {st : List Value} {w : ab_W} : ab_Run ab_mt 131 22 ls st w = ab_Run ab_mt 131 49 ls st w := E_goto rfl
theorem e_131_25 {ls : ab_L} {st : List Value} {w : ab_W} (h : ab_isI (ls 2) = true) : ab_Run ab_mt 131 25 ls st w = ab_Run ab_mt 131 26 ls (ab_gv (ls 2) :: st) w := E_loadi (n := 1) rfl h
theorem e_131_26 {ls : ab_L} {st : List Value} {w : ab_W} (h : ab_isI (ls 3) = true) : ab_Run ab_mt 131 26 ls st w = ab_Run ab_mt 131 27 ls (ab_gv (ls 3) :: st) w := E_loadi (n := 1) rfl h
theorem e_131_27 {ls : ab_L} {st : List Value} {w : ab_W} {v0 v1 : Value} (h1 : ab_recv ab_mt 130 [v0, v1] w.2 = true) (h8 : ab_w8 st = true) : ab_Run ab_mt 131 27 ls (v1 :: v0 :: st) w = ab_aft 130 131 27 ls st (ab_Cl 130 [v0, v1] w) := E_call2 rfl h1 h8
theorem e_131_30 {ls : ab_L} {st : List Value} {w : ab_W} {x : Int32} : ab_Run ab_mt 131 30 ls (.int x :: st) w = if x = 0 then ab_Run ab_mt 131 33 ls st w else ab_Run ab_mt 131 37 ls st w := E_if_ne rfl
theorem e_131_33 {ls : ab_L} {st : List Value} {w : ab_W} : ab_Run ab_mt 131 33 ls st w = ab_Run ab_mt 131 34 ls (.int (nI 2) :: st) w := E_push (n := 1) rfl
theorem e_131_34 {ls : ab_L} {st : List Value} {w : ab_W} : ab_Run ab_mt 131 34 ls st w = ab_Run ab_mt 131 49 ls st w := E_goto rfl
theorem e_131_37 {ls : ab_L} {st : List Value} {w : ab_W} (h : ab_isR (ls 0) = true) : ab_Run ab_mt 131 37 ls st w = ab_Run ab_mt 131 38 ls (ab_gv (ls 0) :: st) w := E_loadr (n := 1) rfl h
theorem e_131_38 {ls : ab_L} {st : List Value} {w : ab_W} {a : Nat} (h : ab_isF 7 9 (w.2 a) = true) : ab_Run ab_mt 131 38 ls (.ref a :: st) w = ab_Run ab_mt 131 41 ls (ab_fv 9 (w.2 a) :: st) w := E_get rfl h
theorem e_131_41 {ls : ab_L} {st : List Value} {w : ab_W} {x : Int32} : ab_Run ab_mt 131 41 ls (.int x :: st) w = if x = 0 then ab_Run ab_mt 131 48 ls st w else ab_Run ab_mt 131 44 ls st w := E_if_eq rfl
theorem e_131_44 {ls : ab_L} {st : List Value} {w : ab_W} : ab_Run ab_mt 131 44 ls st w = ab_Run ab_mt 131 45 ls (.int (nI 3) :: st) w := E_push (n := 1) rfl
theorem e_131_45 {ls : ab_L} {st : List Value} {w : ab_W} : ab_Run ab_mt 131 45 ls st w = ab_Run ab_mt 131 49 ls st w := E_goto rfl
theorem e_131_48 {ls : ab_L} {st : List Value} {w : ab_W} : ab_Run ab_mt 131 48 ls st w = ab_Run ab_mt 131 49 ls (.int (nI 0) :: st) w := E_push (n := 1) rfl
theorem e_131_49 {ls : ab_L} {st : List Value} {w : ab_W} {a : Nat} {x : Int32} (h : ab_isF 7 0 (w.2 a) = true) : ab_Run ab_mt 131 49 ls (.int x :: .ref a :: st) w = ab_Run ab_mt 131 52 ls st (w.1, ab_up w.2 a (ab_sf 0 (.int x) (w.2 a))) := E_put rfl h rfl
theorem e_131_52 {ls : ab_L} {st : List Value} {w : ab_W} (h : ab_isR (ls 0) = true) : ab_Run ab_mt 131 52 ls st w = ab_Run ab_mt 131 53 ls (ab_gv (ls 0) :: st) w := E_loadr (n := 1) rfl h
theorem e_131_53 {ls : ab_L} {st : List Value} {w : ab_W} {a : Nat} (h : ab_isF 7 0 (w.2 a) = true) : ab_Run ab_mt 131 53 ls (.ref a :: st) w = ab_Run ab_mt 131 56 ls (ab_fv 0 (w.2 a) :: st) w := E_get rfl h
theorem e_131_56 {ls : ab_L} {st : List Value} {w : ab_W} {x : Int32} : ab_Run ab_mt 131 56 ls (.int x :: st) w = if x ≤ 0 then ab_Run ab_mt 131 61 ls st w else ab_Run ab_mt 131 59 ls st w := E_if_le rfl
theorem e_131_59 {ls : ab_L} {st : List Value} {w : ab_W} : ab_Run ab_mt 131 59 ls st w = ab_Run ab_mt 131 60 ls (.int (nI 0) :: st) w := E_push (n := 1) rfl
theorem e_131_60 {ls : ab_L} {w : ab_W} {x : Int32} : ab_Run ab_mt 131 60 ls [.int x] w = some (.inl (some (.int x)), w) := E_reti rfl
theorem e_131_61 {ls : ab_L} {st : List Value} {w : ab_W} (h : ab_isR (ls 0) = true) : ab_Run ab_mt 131 61 ls st w = ab_Run ab_mt 131 62 ls (ab_gv (ls 0) :: st) w := E_loadr (n := 1) rfl h
theorem e_131_62 {ls : ab_L} {st : List Value} {w : ab_W} {v0 : Value} (h1 : ab_recv ab_mt 117 [v0] w.2 = true) (h8 : ab_w8 st = true) : ab_Run ab_mt 131 62 ls (v0 :: st) w = ab_aft 117 131 62 ls st (ab_Cl 117 [v0] w) := E_call1 rfl h1 h8
theorem e_131_65 {ls : ab_L} {st : List Value} {w : ab_W} (h : ab_isR (ls 0) = true) : ab_Run ab_mt 131 65 ls st w = ab_Run ab_mt 131 66 ls (ab_gv (ls 0) :: st) w := E_loadr (n := 1) rfl h
theorem e_131_66 {ls : ab_L} {st : List Value} {w : ab_W} (h : ab_isI (ls 1) = true) : ab_Run ab_mt 131 66 ls st w = ab_Run ab_mt 131 67 ls (ab_gv (ls 1) :: st) w := E_loadi (n := 1) rfl h
theorem e_131_67 {ls : ab_L} {st : List Value} {w : ab_W} (h : ab_isI (ls 2) = true) : ab_Run ab_mt 131 67 ls st w = ab_Run ab_mt 131 68 ls (ab_gv (ls 2) :: st) w := E_loadi (n := 1) rfl h
theorem e_131_68 {ls : ab_L} {st : List Value} {w : ab_W} {v0 v1 v2 : Value} (h1 : ab_recv ab_mt 109 [v0, v1, v2] w.2 = true) (h8 : ab_w8 st = true) : ab_Run ab_mt 131 68 ls (v2 :: v1 :: v0 :: st) w = ab_aft 109 131 68 ls st (ab_Cl 109 [v0, v1, v2] w) := E_call3 rfl h1 h8
theorem e_131_71 {ls : ab_L} {st : List Value} {w : ab_W} {x : Int32} : ab_Run ab_mt 131 71 ls (.int x :: st) w = ab_Run ab_mt 131 73 (ab_l1 ls 4 (.int x)) st w := E_stori (n := 2) rfl
theorem e_131_73 {ls : ab_L} {st : List Value} {w : ab_W} (h : ab_isR (ls 0) = true) : ab_Run ab_mt 131 73 ls st w = ab_Run ab_mt 131 74 ls (ab_gv (ls 0) :: st) w := E_loadr (n := 1) rfl h
theorem e_131_74 {ls : ab_L} {st : List Value} {w : ab_W} {a : Nat} (h : ab_isF 7 1 (w.2 a) = true) : ab_Run ab_mt 131 74 ls (.ref a :: st) w = ab_Run ab_mt 131 77 ls (ab_fv 1 (w.2 a) :: st) w := E_get rfl h
theorem e_131_77 {ls : ab_L} {st : List Value} {w : ab_W} : ab_Run ab_mt 131 77 ls st w = ab_Run ab_mt 131 78 ls (.int (nI 5) :: st) w := E_push (n := 1) rfl
theorem e_131_78 {ls : ab_L} {st : List Value} {w : ab_W} (h : ab_isI (ls 1) = true) : ab_Run ab_mt 131 78 ls st w = ab_Run ab_mt 131 79 ls (ab_gv (ls 1) :: st) w := E_loadi (n := 1) rfl h
theorem e_131_79 {ls : ab_L} {st : List Value} {w : ab_W} {x y : Int32} : ab_Run ab_mt 131 79 ls (.int y :: .int x :: st) w = ab_Run ab_mt 131 80 ls (.int (x * y) :: st) w := E_ib (f := fun x y => x * y) rfl
theorem e_131_80 {ls : ab_L} {st : List Value} {w : ab_W} (h : ab_isI (ls 2) = true) : ab_Run ab_mt 131 80 ls st w = ab_Run ab_mt 131 81 ls (ab_gv (ls 2) :: st) w := E_loadi (n := 1) rfl h
theorem e_131_81 {ls : ab_L} {st : List Value} {w : ab_W} {x y : Int32} : ab_Run ab_mt 131 81 ls (.int y :: .int x :: st) w = ab_Run ab_mt 131 82 ls (.int (x + y) :: st) w := E_ib (f := fun x y => x + y) rfl
theorem e_131_82 {ls : ab_L} {st : List Value} {w : ab_W} (h : ab_isI (ls 3) = true) : ab_Run ab_mt 131 82 ls st w = ab_Run ab_mt 131 83 ls (ab_gv (ls 3) :: st) w := E_loadi (n := 1) rfl h
theorem e_131_83 {ls : ab_L} {st : List Value} {w : ab_W} {a : Nat} {i x : Int32} (h : ab_inW i (w.2 a) = true) : ab_Run ab_mt 131 83 ls (.int x :: .int i :: .ref a :: st) w = ab_Run ab_mt 131 84 ls st (w.1, ab_up w.2 a (ab_sI i.toNatClampNeg x (w.2 a))) := E_iast rfl h
theorem e_131_84 {ls : ab_L} {st : List Value} {w : ab_W} (h : ab_isR (ls 0) = true) : ab_Run ab_mt 131 84 ls st w = ab_Run ab_mt 131 85 ls (ab_gv (ls 0) :: st) w := E_loadr (n := 1) rfl h
theorem e_131_85 {ls : ab_L} {st : List Value} {w : ab_W} {a : Nat} (h : ab_isF 7 1 (w.2 a) = true) : ab_Run ab_mt 131 85 ls (.ref a :: st) w = ab_Run ab_mt 131 88 ls (ab_fv 1 (w.2 a) :: st) w := E_get rfl h
theorem e_131_88 {ls : ab_L} {st : List Value} {w : ab_W} : ab_Run ab_mt 131 88 ls st w = ab_Run ab_mt 131 89 ls (.int (nI 5) :: st) w := E_push (n := 1) rfl
theorem e_131_89 {ls : ab_L} {st : List Value} {w : ab_W} (h : ab_isI (ls 1) = true) : ab_Run ab_mt 131 89 ls st w = ab_Run ab_mt 131 90 ls (ab_gv (ls 1) :: st) w := E_loadi (n := 1) rfl h
theorem e_131_90 {ls : ab_L} {st : List Value} {w : ab_W} {x y : Int32} : ab_Run ab_mt 131 90 ls (.int y :: .int x :: st) w = ab_Run ab_mt 131 91 ls (.int (x * y) :: st) w := E_ib (f := fun x y => x * y) rfl
theorem e_131_91 {ls : ab_L} {st : List Value} {w : ab_W} : ab_Run ab_mt 131 91 ls st w = ab_Run ab_mt 131 92 ls (.int (nI 4) :: st) w := E_push (n := 1) rfl
theorem e_131_92 {ls : ab_L} {st : List Value} {w : ab_W} {x y : Int32} : ab_Run ab_mt 131 92 ls (.int y :: .int x :: st) w = ab_Run ab_mt 131 93 ls (.int (x + y) :: st) w := E_ib (f := fun x y => x + y) rfl
theorem e_131_93 {ls : ab_L} {st : List Value} {w : ab_W} {x : Nat} {y : Int32} : ab_Run ab_mt 131 93 ls (.int y :: .ref x :: st) w = ab_Run ab_mt 131 94 ls (.int y :: .ref x :: .int y :: .ref x :: st) w := E_dup2 rfl
theorem e_131_94 {ls : ab_L} {st : List Value} {w : ab_W} {a : Nat} {i : Int32} (h : ab_inI i (w.2 a) = true) : ab_Run ab_mt 131 94 ls (.int i :: .ref a :: st) w = ab_Run ab_mt 131 95 ls (.int (ab_aI i.toNatClampNeg (w.2 a)) :: st) w := E_iald rfl h
theorem e_131_95 {ls : ab_L} {st : List Value} {w : ab_W} : ab_Run ab_mt 131 95 ls st w = ab_Run ab_mt 131 96 ls (.int (nI 1) :: st) w := E_push (n := 1) rfl
theorem e_131_96 {ls : ab_L} {st : List Value} {w : ab_W} (h : ab_isR (ls 0) = true) : ab_Run ab_mt 131 96 ls st w = ab_Run ab_mt 131 97 ls (ab_gv (ls 0) :: st) w := E_loadr (n := 1) rfl h
theorem e_131_97 {ls : ab_L} {st : List Value} {w : ab_W} (h : ab_isI (ls 1) = true) : ab_Run ab_mt 131 97 ls st w = ab_Run ab_mt 131 98 ls (ab_gv (ls 1) :: st) w := E_loadi (n := 1) rfl h
theorem e_131_98 {ls : ab_L} {st : List Value} {w : ab_W} : ab_Run ab_mt 131 98 ls st w = ab_Run ab_mt 131 99 ls (.int (nI 0) :: st) w := E_push (n := 1) rfl
theorem e_131_99 {ls : ab_L} {st : List Value} {w : ab_W} {v0 v1 v2 : Value} (h1 : ab_recv ab_mt 109 [v0, v1, v2] w.2 = true) (h8 : ab_w8 st = true) : ab_Run ab_mt 131 99 ls (v2 :: v1 :: v0 :: st) w = ab_aft 109 131 99 ls st (ab_Cl 109 [v0, v1, v2] w) := E_call3 rfl h1 h8
theorem e_131_102 {ls : ab_L} {st : List Value} {w : ab_W} {x y : Int32} : ab_Run ab_mt 131 102 ls (.int y :: .int x :: st) w = ab_Run ab_mt 131 103 ls (.int (x <<< (y &&& 31)) :: st) w := E_ib (f := fun x y => x <<< (y &&& 31)) rfl
theorem e_131_103 {ls : ab_L} {st : List Value} {w : ab_W} : ab_Run ab_mt 131 103 ls st w = ab_Run ab_mt 131 104 ls (.int (nI 1) :: st) w := E_push (n := 1) rfl
theorem e_131_104 {ls : ab_L} {st : List Value} {w : ab_W} {x y : Int32} : ab_Run ab_mt 131 104 ls (.int y :: .int x :: st) w = ab_Run ab_mt 131 105 ls (.int (x - y) :: st) w := E_ib (f := fun x y => x - y) rfl
theorem e_131_105 {ls : ab_L} {st : List Value} {w : ab_W} {x y : Int32} : ab_Run ab_mt 131 105 ls (.int y :: .int x :: st) w = ab_Run ab_mt 131 106 ls (.int (x &&& y) :: st) w := E_ib (f := fun x y => x &&& y) rfl
theorem e_131_106 {ls : ab_L} {st : List Value} {w : ab_W} {a : Nat} {i x : Int32} (h : ab_inW i (w.2 a) = true) : ab_Run ab_mt 131 106 ls (.int x :: .int i :: .ref a :: st) w = ab_Run ab_mt 131 107 ls st (w.1, ab_up w.2 a (ab_sI i.toNatClampNeg x (w.2 a))) := E_iast rfl h
theorem e_131_107 {ls : ab_L} {st : List Value} {w : ab_W} (h : ab_isR (ls 0) = true) : ab_Run ab_mt 131 107 ls st w = ab_Run ab_mt 131 108 ls (ab_gv (ls 0) :: st) w := E_loadr (n := 1) rfl h
theorem e_131_108 {ls : ab_L} {st : List Value} {w : ab_W} {v0 : Value} (h1 : ab_recv ab_mt 126 [v0] w.2 = true) (h8 : ab_w8 st = true) : ab_Run ab_mt 131 108 ls (v0 :: st) w = ab_aft 126 131 108 ls st (ab_Cl 126 [v0] w) := E_call1 rfl h1 h8
theorem e_131_111 {ls : ab_L} {st : List Value} {w : ab_W} (h : ab_isI (ls 4) = true) : ab_Run ab_mt 131 111 ls st w = ab_Run ab_mt 131 113 ls (ab_gv (ls 4) :: st) w := E_loadi (n := 2) rfl h
theorem e_131_113 {ls : ab_L} {w : ab_W} {x : Int32} : ab_Run ab_mt 131 113 ls [.int x] w = some (.inl (some (.int x)), w) := E_reti rfl
theorem rv_131 {σ : ab_S} {t : Nat} {x0 : Int32} {x1 : Int32} {x2 : Int32} : ab_recv ab_mt 131 [.ref t, .int x0, .int x1, .int x2] σ = ab_isO 7 (σ t) := rfl
theorem e_132_0 {ls : ab_L} {st : List Value} {w : ab_W} (h : ab_isR (ls 0) = true) : ab_Run ab_mt 132 0 ls st w = ab_Run ab_mt 132 1 ls (ab_gv (ls 0) :: st) w := E_loadr (n := 1) rfl h
theorem e_132_1 {ls : ab_L} {st : List Value} {w : ab_W} (h : ab_isR (ls 0) = true) : ab_Run ab_mt 132 1 ls st w = ab_Run ab_mt 132 2 ls (ab_gv (ls 0) :: st) w := E_loadr (n := 1) rfl h
theorem e_132_2 {ls : ab_L} {st : List Value} {w : ab_W} (h : ab_isI (ls 1) = true) : ab_Run ab_mt 132 2 ls st w = ab_Run ab_mt 132 3 ls (ab_gv (ls 1) :: st) w := E_loadi (n := 1) rfl h
theorem e_132_3 {ls : ab_L} {st : List Value} {w : ab_W} {v0 v1 : Value} (h1 : ab_recv ab_mt 112 [v0, v1] w.2 = true) (h8 : ab_w8 st = true) : ab_Run ab_mt 132 3 ls (v1 :: v0 :: st) w = ab_aft 112 132 3 ls st (ab_Cl 112 [v0, v1] w) := E_call2 rfl h1 h8
theorem e_132_6 {ls : ab_L} {st : List Value} {w : ab_W} {x : Int32} : ab_Run ab_mt 132 6 ls (.int x :: st) w = if x = 0 then ab_Run ab_mt 132 9 ls st w else ab_Run ab_mt 132 13 ls st w := E_if_ne rfl
theorem e_132_9 {ls : ab_L} {st : List Value} {w : ab_W} : ab_Run ab_mt 132 9 ls st w = ab_Run ab_mt 132 10 ls (.int (nI 1) :: st) w := E_push (n := 1) rfl
theorem e_132_10 {ls : ab_L} {st : List Value} {w : ab_W} : ab_Run ab_mt 132 10 ls st w = ab_Run ab_mt 132 25 ls st w := E_goto rfl
theorem e_132_13 {ls : ab_L} {st : List Value} {w : ab_W} (h : ab_isR (ls 0) = true) : ab_Run ab_mt 132 13 ls st w = ab_Run ab_mt 132 14 ls (ab_gv (ls 0) :: st) w := E_loadr (n := 1) rfl h
theorem e_132_14 {ls : ab_L} {st : List Value} {w : ab_W} {a : Nat} (h : ab_isF 7 9 (w.2 a) = true) : ab_Run ab_mt 132 14 ls (.ref a :: st) w = ab_Run ab_mt 132 17 ls (ab_fv 9 (w.2 a) :: st) w := E_get rfl h
theorem e_132_17 {ls : ab_L} {st : List Value} {w : ab_W} {x : Int32} : ab_Run ab_mt 132 17 ls (.int x :: st) w = if x = 0 then ab_Run ab_mt 132 24 ls st w else ab_Run ab_mt 132 20 ls st w := E_if_eq rfl
theorem e_132_20 {ls : ab_L} {st : List Value} {w : ab_W} : ab_Run ab_mt 132 20 ls st w = ab_Run ab_mt 132 21 ls (.int (nI 2) :: st) w := E_push (n := 1) rfl
theorem e_132_21 {ls : ab_L} {st : List Value} {w : ab_W} : ab_Run ab_mt 132 21 ls st w = ab_Run ab_mt 132 25 ls st w := E_goto rfl
theorem e_132_24 {ls : ab_L} {st : List Value} {w : ab_W} : ab_Run ab_mt 132 24 ls st w = ab_Run ab_mt 132 25 ls (.int (nI 0) :: st) w := E_push (n := 1) rfl
theorem e_132_25 {ls : ab_L} {st : List Value} {w : ab_W} {a : Nat} {x : Int32} (h : ab_isF 7 0 (w.2 a) = true) : ab_Run ab_mt 132 25 ls (.int x :: .ref a :: st) w = ab_Run ab_mt 132 28 ls st (w.1, ab_up w.2 a (ab_sf 0 (.int x) (w.2 a))) := E_put rfl h rfl
theorem e_132_28 {ls : ab_L} {st : List Value} {w : ab_W} (h : ab_isR (ls 0) = true) : ab_Run ab_mt 132 28 ls st w = ab_Run ab_mt 132 29 ls (ab_gv (ls 0) :: st) w := E_loadr (n := 1) rfl h
theorem e_132_29 {ls : ab_L} {st : List Value} {w : ab_W} {a : Nat} (h : ab_isF 7 0 (w.2 a) = true) : ab_Run ab_mt 132 29 ls (.ref a :: st) w = ab_Run ab_mt 132 32 ls (ab_fv 0 (w.2 a) :: st) w := E_get rfl h
theorem e_132_32 {ls : ab_L} {st : List Value} {w : ab_W} {x : Int32} : ab_Run ab_mt 132 32 ls (.int x :: st) w = if x ≤ 0 then ab_Run ab_mt 132 37 ls st w else ab_Run ab_mt 132 35 ls st w := E_if_le rfl
theorem e_132_35 {ls : ab_L} {st : List Value} {w : ab_W} : ab_Run ab_mt 132 35 ls st w = ab_Run ab_mt 132 36 ls (.int (nI 0) :: st) w := E_push (n := 1) rfl
theorem e_132_36 {ls : ab_L} {w : ab_W} {x : Int32} : ab_Run ab_mt 132 36 ls [.int x] w = some (.inl (some (.int x)), w) := E_reti rfl
theorem e_132_37 {ls : ab_L} {st : List Value} {w : ab_W} (h : ab_isR (ls 0) = true) : ab_Run ab_mt 132 37 ls st w = ab_Run ab_mt 132 38 ls (ab_gv (ls 0) :: st) w := E_loadr (n := 1) rfl h
theorem e_132_38 {ls : ab_L} {st : List Value} {w : ab_W} {v0 : Value} (h1 : ab_recv ab_mt 117 [v0] w.2 = true) (h8 : ab_w8 st = true) : ab_Run ab_mt 132 38 ls (v0 :: st) w = ab_aft 117 132 38 ls st (ab_Cl 117 [v0] w) := E_call1 rfl h1 h8
theorem e_132_41 {ls : ab_L} {st : List Value} {w : ab_W} (h : ab_isR (ls 0) = true) : ab_Run ab_mt 132 41 ls st w = ab_Run ab_mt 132 42 ls (ab_gv (ls 0) :: st) w := E_loadr (n := 1) rfl h
theorem e_132_42 {ls : ab_L} {st : List Value} {w : ab_W} {a : Nat} (h : ab_isF 7 1 (w.2 a) = true) : ab_Run ab_mt 132 42 ls (.ref a :: st) w = ab_Run ab_mt 132 45 ls (ab_fv 1 (w.2 a) :: st) w := E_get rfl h
theorem e_132_45 {ls : ab_L} {st : List Value} {w : ab_W} : ab_Run ab_mt 132 45 ls st w = ab_Run ab_mt 132 48 ls (.int (nI 190) :: st) w := E_push (n := 3) rfl
theorem e_132_48 {ls : ab_L} {st : List Value} {w : ab_W} {x : Nat} {y : Int32} : ab_Run ab_mt 132 48 ls (.int y :: .ref x :: st) w = ab_Run ab_mt 132 49 ls (.int y :: .ref x :: .int y :: .ref x :: st) w := E_dup2 rfl
theorem e_132_49 {ls : ab_L} {st : List Value} {w : ab_W} {a : Nat} {i : Int32} (h : ab_inI i (w.2 a) = true) : ab_Run ab_mt 132 49 ls (.int i :: .ref a :: st) w = ab_Run ab_mt 132 50 ls (.int (ab_aI i.toNatClampNeg (w.2 a)) :: st) w := E_iald rfl h
theorem e_132_50 {ls : ab_L} {st : List Value} {w : ab_W} : ab_Run ab_mt 132 50 ls st w = ab_Run ab_mt 132 51 ls (.int (nI 1) :: st) w := E_push (n := 1) rfl
theorem e_132_51 {ls : ab_L} {st : List Value} {w : ab_W} {x y : Int32} : ab_Run ab_mt 132 51 ls (.int y :: .int x :: st) w = ab_Run ab_mt 132 52 ls (.int (x - y) :: st) w := E_ib (f := fun x y => x - y) rfl
theorem e_132_52 {ls : ab_L} {st : List Value} {w : ab_W} {a : Nat} {i x : Int32} (h : ab_inW i (w.2 a) = true) : ab_Run ab_mt 132 52 ls (.int x :: .int i :: .ref a :: st) w = ab_Run ab_mt 132 53 ls st (w.1, ab_up w.2 a (ab_sI i.toNatClampNeg x (w.2 a))) := E_iast rfl h
theorem e_132_53 {ls : ab_L} {st : List Value} {w : ab_W} : ab_Run ab_mt 132 53 ls st w = ab_Run ab_mt 132 54 ls (.int (nI 5) :: st) w := E_push (n := 1) rfl
theorem e_132_54 {ls : ab_L} {st : List Value} {w : ab_W} (h : ab_isI (ls 1) = true) : ab_Run ab_mt 132 54 ls st w = ab_Run ab_mt 132 55 ls (ab_gv (ls 1) :: st) w := E_loadi (n := 1) rfl h
theorem e_132_55 {ls : ab_L} {st : List Value} {w : ab_W} {x y : Int32} : ab_Run ab_mt 132 55 ls (.int y :: .int x :: st) w = ab_Run ab_mt 132 56 ls (.int (x * y) :: st) w := E_ib (f := fun x y => x * y) rfl
theorem e_132_56 {ls : ab_L} {st : List Value} {w : ab_W} {x : Int32} : ab_Run ab_mt 132 56 ls (.int x :: st) w = ab_Run ab_mt 132 57 (ab_l1 ls 2 (.int x)) st w := E_stori (n := 1) rfl
theorem e_132_57 {ls : ab_L} {st : List Value} {w : ab_W} (h : ab_isI (ls 2) = true) : ab_Run ab_mt 132 57 ls st w = ab_Run ab_mt 132 58 ls (ab_gv (ls 2) :: st) w := E_loadi (n := 1) rfl h
theorem e_132_58 {ls : ab_L} {st : List Value} {w : ab_W} : ab_Run ab_mt 132 58 ls st w = ab_Run ab_mt 132 59 ls (.int (nI 5) :: st) w := E_push (n := 1) rfl
theorem e_132_59 {ls : ab_L} {st : List Value} {w : ab_W} (h : ab_isR (ls 0) = true) : ab_Run ab_mt 132 59 ls st w = ab_Run ab_mt 132 60 ls (ab_gv (ls 0) :: st) w := E_loadr (n := 1) rfl h
theorem e_132_60 {ls : ab_L} {st : List Value} {w : ab_W} {v0 : Value} (h1 : ab_recv ab_mt 108 [v0] w.2 = true) (h8 : ab_w8 st = true) : ab_Run ab_mt 132 60 ls (v0 :: st) w = ab_aft 108 132 60 ls st (ab_Cl 108 [v0] w) := E_call1 rfl h1 h8
theorem e_132_63 {ls : ab_L} {st : List Value} {w : ab_W} {x y : Int32} : ab_Run ab_mt 132 63 ls (.int y :: .int x :: st) w = ab_Run ab_mt 132 64 ls (.int (x * y) :: st) w := E_ib (f := fun x y => x * y) rfl
theorem e_132_64 {ls : ab_L} {st : List Value} {w : ab_W} {x y : Int32} : ab_Run ab_mt 132 64 ls (.int y :: .int x :: st) w = if y ≤ x then ab_Run ab_mt 132 87 ls st w else ab_Run ab_mt 132 67 ls st w := E_ic_ge rfl
theorem e_132_67 {ls : ab_L} {st : List Value} {w : ab_W} (h : ab_isR (ls 0) = true) : ab_Run ab_mt 132 67 ls st w = ab_Run ab_mt 132 68 ls (ab_gv (ls 0) :: st) w := E_loadr (n := 1) rfl h
theorem e_132_68 {ls : ab_L} {st : List Value} {w : ab_W} {a : Nat} (h : ab_isF 7 1 (w.2 a) = true) : ab_Run ab_mt 132 68 ls (.ref a :: st) w = ab_Run ab_mt 132 71 ls (ab_fv 1 (w.2 a) :: st) w := E_get rfl h
theorem e_132_71 {ls : ab_L} {st : List Value} {w : ab_W} (h : ab_isI (ls 2) = true) : ab_Run ab_mt 132 71 ls st w = ab_Run ab_mt 132 72 ls (ab_gv (ls 2) :: st) w := E_loadi (n := 1) rfl h
theorem e_132_72 {ls : ab_L} {st : List Value} {w : ab_W} (h : ab_isR (ls 0) = true) : ab_Run ab_mt 132 72 ls st w = ab_Run ab_mt 132 73 ls (ab_gv (ls 0) :: st) w := E_loadr (n := 1) rfl h
theorem e_132_73 {ls : ab_L} {st : List Value} {w : ab_W} {a : Nat} (h : ab_isF 7 1 (w.2 a) = true) : ab_Run ab_mt 132 73 ls (.ref a :: st) w = ab_Run ab_mt 132 76 ls (ab_fv 1 (w.2 a) :: st) w := E_get rfl h
theorem e_132_76 {ls : ab_L} {st : List Value} {w : ab_W} (h : ab_isI (ls 2) = true) : ab_Run ab_mt 132 76 ls st w = ab_Run ab_mt 132 77 ls (ab_gv (ls 2) :: st) w := E_loadi (n := 1) rfl h
theorem e_132_77 {ls : ab_L} {st : List Value} {w : ab_W} : ab_Run ab_mt 132 77 ls st w = ab_Run ab_mt 132 78 ls (.int (nI 5) :: st) w := E_push (n := 1) rfl
theorem e_132_78 {ls : ab_L} {st : List Value} {w : ab_W} {x y : Int32} : ab_Run ab_mt 132 78 ls (.int y :: .int x :: st) w = ab_Run ab_mt 132 79 ls (.int (x + y) :: st) w := E_ib (f := fun x y => x + y) rfl
theorem e_132_79 {ls : ab_L} {st : List Value} {w : ab_W} {a : Nat} {i : Int32} (h : ab_inI i (w.2 a) = true) : ab_Run ab_mt 132 79 ls (.int i :: .ref a :: st) w = ab_Run ab_mt 132 80 ls (.int (ab_aI i.toNatClampNeg (w.2 a)) :: st) w := E_iald rfl h
theorem e_132_80 {ls : ab_L} {st : List Value} {w : ab_W} {a : Nat} {i x : Int32} (h : ab_inW i (w.2 a) = true) : ab_Run ab_mt 132 80 ls (.int x :: .int i :: .ref a :: st) w = ab_Run ab_mt 132 81 ls st (w.1, ab_up w.2 a (ab_sI i.toNatClampNeg x (w.2 a))) := E_iast rfl h
theorem e_132_81 {ls : ab_L} {st : List Value} {w : ab_W} (h : ab_isI (ls 2) = true) : ab_Run ab_mt 132 81 ls st w = ab_Run ab_mt 132 84 (ab_l1 ls 2 (.int (ab_gi (ls 2) + (nI 1)))) st w := E_iinc rfl h
theorem e_132_84 {ls : ab_L} {st : List Value} {w : ab_W} : ab_Run ab_mt 132 84 ls st w = ab_Run ab_mt 132 57 ls st w := E_goto rfl
theorem e_132_87 {ls : ab_L} {st : List Value} {w : ab_W} (h : ab_isR (ls 0) = true) : ab_Run ab_mt 132 87 ls st w = ab_Run ab_mt 132 88 ls (ab_gv (ls 0) :: st) w := E_loadr (n := 1) rfl h
theorem e_132_88 {ls : ab_L} {st : List Value} {w : ab_W} {v0 : Value} (h1 : ab_recv ab_mt 126 [v0] w.2 = true) (h8 : ab_w8 st = true) : ab_Run ab_mt 132 88 ls (v0 :: st) w = ab_aft 126 132 88 ls st (ab_Cl 126 [v0] w) := E_call1 rfl h1 h8
theorem e_132_91 {ls : ab_L} {st : List Value} {w : ab_W} (h : ab_isR (ls 0) = true) : ab_Run ab_mt 132 91 ls st w = ab_Run ab_mt 132 92 ls (ab_gv (ls 0) :: st) w := E_loadr (n := 1) rfl h
theorem e_132_92 {ls : ab_L} {st : List Value} {w : ab_W} {v0 : Value} (h1 : ab_recv ab_mt 108 [v0] w.2 = true) (h8 : ab_w8 st = true) : ab_Run ab_mt 132 92 ls (v0 :: st) w = ab_aft 108 132 92 ls st (ab_Cl 108 [v0] w) := E_call1 rfl h1 h8
theorem e_132_95 {ls : ab_L} {w : ab_W} {x : Int32} : ab_Run ab_mt 132 95 ls [.int x] w = some (.inl (some (.int x)), w) := E_reti rfl
theorem rv_132 {σ : ab_S} {t : Nat} {x0 : Int32} : ab_recv ab_mt 132 [.ref t, .int x0] σ = ab_isO 7 (σ t) := rfl
theorem e_133_0 {ls : ab_L} {st : List Value} {w : ab_W} : ab_Run ab_mt 133 0 ls st w = ab_Run ab_mt 133 1 ls (.int (-1) :: st) w := E_push (n := 1) rfl
theorem e_133_1 {ls : ab_L} {st : List Value} {w : ab_W} {x : Int32} : ab_Run ab_mt 133 1 ls (.int x :: st) w = ab_Run ab_mt 133 2 (ab_l1 ls 2 (.int x)) st w := E_stori (n := 1) rfl
theorem e_133_2 {ls : ab_L} {st : List Value} {w : ab_W} : ab_Run ab_mt 133 2 ls st w = ab_Run ab_mt 133 3 ls (.int (nI 0) :: st) w := E_push (n := 1) rfl
theorem e_133_3 {ls : ab_L} {st : List Value} {w : ab_W} {x : Int32} : ab_Run ab_mt 133 3 ls (.int x :: st) w = ab_Run ab_mt 133 4 (ab_l1 ls 3 (.int x)) st w := E_stori (n := 1) rfl
theorem e_133_4 {ls : ab_L} {st : List Value} {w : ab_W} (h : ab_isI (ls 3) = true) : ab_Run ab_mt 133 4 ls st w = ab_Run ab_mt 133 5 ls (ab_gv (ls 3) :: st) w := E_loadi (n := 1) rfl h
theorem e_133_5 {ls : ab_L} {st : List Value} {w : ab_W} (h : ab_isR (ls 0) = true) : ab_Run ab_mt 133 5 ls st w = ab_Run ab_mt 133 6 ls (ab_gv (ls 0) :: st) w := E_loadr (n := 1) rfl h
theorem e_133_6 {ls : ab_L} {st : List Value} {w : ab_W} {a : Nat} (h : ab_isF 7 1 (w.2 a) = true) : ab_Run ab_mt 133 6 ls (.ref a :: st) w = ab_Run ab_mt 133 9 ls (ab_fv 1 (w.2 a) :: st) w := E_get rfl h
theorem e_133_9 {ls : ab_L} {st : List Value} {w : ab_W} : ab_Run ab_mt 133 9 ls st w = ab_Run ab_mt 133 12 ls (.int (nI 191) :: st) w := E_push (n := 3) rfl
theorem e_133_12 {ls : ab_L} {st : List Value} {w : ab_W} {a : Nat} {i : Int32} (h : ab_inI i (w.2 a) = true) : ab_Run ab_mt 133 12 ls (.int i :: .ref a :: st) w = ab_Run ab_mt 133 13 ls (.int (ab_aI i.toNatClampNeg (w.2 a)) :: st) w := E_iald rfl h
theorem e_133_13 {ls : ab_L} {st : List Value} {w : ab_W} {x y : Int32} : ab_Run ab_mt 133 13 ls (.int y :: .int x :: st) w = if y ≤ x then ab_Run ab_mt 133 38 ls st w else ab_Run ab_mt 133 16 ls st w := E_ic_ge rfl
theorem e_133_16 {ls : ab_L} {st : List Value} {w : ab_W} (h : ab_isR (ls 0) = true) : ab_Run ab_mt 133 16 ls st w = ab_Run ab_mt 133 17 ls (ab_gv (ls 0) :: st) w := E_loadr (n := 1) rfl h
theorem e_133_17 {ls : ab_L} {st : List Value} {w : ab_W} (h : ab_isI (ls 3) = true) : ab_Run ab_mt 133 17 ls st w = ab_Run ab_mt 133 18 ls (ab_gv (ls 3) :: st) w := E_loadi (n := 1) rfl h
theorem e_133_18 {ls : ab_L} {st : List Value} {w : ab_W} : ab_Run ab_mt 133 18 ls st w = ab_Run ab_mt 133 19 ls (.int (nI 0) :: st) w := E_push (n := 1) rfl
theorem e_133_19 {ls : ab_L} {st : List Value} {w : ab_W} {v0 v1 v2 : Value} (h1 : ab_recv ab_mt 110 [v0, v1, v2] w.2 = true) (h8 : ab_w8 st = true) : ab_Run ab_mt 133 19 ls (v2 :: v1 :: v0 :: st) w = ab_aft 110 133 19 ls st (ab_Cl 110 [v0, v1, v2] w) := E_call3 rfl h1 h8
theorem e_133_22 {ls : ab_L} {st : List Value} {w : ab_W} (h : ab_isI (ls 1) = true) : ab_Run ab_mt 133 22 ls st w = ab_Run ab_mt 133 23 ls (ab_gv (ls 1) :: st) w := E_loadi (n := 1) rfl h
theorem e_133_23 {ls : ab_L} {st : List Value} {w : ab_W} {x y : Int32} : ab_Run ab_mt 133 23 ls (.int y :: .int x :: st) w = if x = y then ab_Run ab_mt 133 26 ls st w else ab_Run ab_mt 133 30 ls st w := E_ic_ne rfl
theorem e_133_26 {ls : ab_L} {st : List Value} {w : ab_W} (h : ab_isI (ls 3) = true) : ab_Run ab_mt 133 26 ls st w = ab_Run ab_mt 133 27 ls (ab_gv (ls 3) :: st) w := E_loadi (n := 1) rfl h
theorem e_133_27 {ls : ab_L} {st : List Value} {w : ab_W} : ab_Run ab_mt 133 27 ls st w = ab_Run ab_mt 133 31 ls st w := E_goto rfl
theorem e_133_30 {ls : ab_L} {st : List Value} {w : ab_W} (h : ab_isI (ls 2) = true) : ab_Run ab_mt 133 30 ls st w = ab_Run ab_mt 133 31 ls (ab_gv (ls 2) :: st) w := E_loadi (n := 1) rfl h
theorem e_133_31 {ls : ab_L} {st : List Value} {w : ab_W} {x : Int32} : ab_Run ab_mt 133 31 ls (.int x :: st) w = ab_Run ab_mt 133 32 (ab_l1 ls 2 (.int x)) st w := E_stori (n := 1) rfl
theorem e_133_32 {ls : ab_L} {st : List Value} {w : ab_W} (h : ab_isI (ls 3) = true) : ab_Run ab_mt 133 32 ls st w = ab_Run ab_mt 133 35 (ab_l1 ls 3 (.int (ab_gi (ls 3) + (nI 1)))) st w := E_iinc rfl h
theorem e_133_35 {ls : ab_L} {st : List Value} {w : ab_W} : ab_Run ab_mt 133 35 ls st w = ab_Run ab_mt 133 4 ls st w := E_goto rfl
theorem e_133_38 {ls : ab_L} {st : List Value} {w : ab_W} (h : ab_isI (ls 2) = true) : ab_Run ab_mt 133 38 ls st w = ab_Run ab_mt 133 39 ls (ab_gv (ls 2) :: st) w := E_loadi (n := 1) rfl h
theorem e_133_39 {ls : ab_L} {w : ab_W} {x : Int32} : ab_Run ab_mt 133 39 ls [.int x] w = some (.inl (some (.int x)), w) := E_reti rfl
theorem rv_133 {σ : ab_S} {t : Nat} {x0 : Int32} : ab_recv ab_mt 133 [.ref t, .int x0] σ = ab_isO 7 (σ t) := rfl
theorem e_134_0 {ls : ab_L} {st : List Value} {w : ab_W} (h : ab_isR (ls 0) = true) : ab_Run ab_mt 134 0 ls st w = ab_Run ab_mt 134 1 ls (ab_gv (ls 0) :: st) w := E_loadr (n := 1) rfl h
theorem e_134_1 {ls : ab_L} {st : List Value} {w : ab_W} (h : ab_isI (ls 1) = true) : ab_Run ab_mt 134 1 ls st w = ab_Run ab_mt 134 2 ls (ab_gv (ls 1) :: st) w := E_loadi (n := 1) rfl h
theorem e_134_2 {ls : ab_L} {st : List Value} {w : ab_W} {v0 v1 : Value} (h1 : ab_recv ab_mt 133 [v0, v1] w.2 = true) (h8 : ab_w8 st = true) : ab_Run ab_mt 134 2 ls (v1 :: v0 :: st) w = ab_aft 133 134 2 ls st (ab_Cl 133 [v0, v1] w) := E_call2 rfl h1 h8
theorem e_134_5 {ls : ab_L} {st : List Value} {w : ab_W} {x : Int32} : ab_Run ab_mt 134 5 ls (.int x :: st) w = ab_Run ab_mt 134 7 (ab_l1 ls 4 (.int x)) st w := E_stori (n := 2) rfl
theorem e_134_7 {ls : ab_L} {st : List Value} {w : ab_W} (h : ab_isI (ls 4) = true) : ab_Run ab_mt 134 7 ls st w = ab_Run ab_mt 134 9 ls (ab_gv (ls 4) :: st) w := E_loadi (n := 2) rfl h
theorem e_134_9 {ls : ab_L} {st : List Value} {w : ab_W} : ab_Run ab_mt 134 9 ls st w = ab_Run ab_mt 134 10 ls (.int (-1) :: st) w := E_push (n := 1) rfl
theorem e_134_10 {ls : ab_L} {st : List Value} {w : ab_W} {x y : Int32} : ab_Run ab_mt 134 10 ls (.int y :: .int x :: st) w = if x = y then ab_Run ab_mt 134 13 ls st w else ab_Run ab_mt 134 106 ls st w := E_ic_ne rfl
theorem e_134_13 {ls : ab_L} {st : List Value} {w : ab_W} (h : ab_isR (ls 0) = true) : ab_Run ab_mt 134 13 ls st w = ab_Run ab_mt 134 14 ls (ab_gv (ls 0) :: st) w := E_loadr (n := 1) rfl h
theorem e_134_14 {ls : ab_L} {st : List Value} {w : ab_W} {a : Nat} (h : ab_isF 7 1 (w.2 a) = true) : ab_Run ab_mt 134 14 ls (.ref a :: st) w = ab_Run ab_mt 134 17 ls (ab_fv 1 (w.2 a) :: st) w := E_get rfl h
theorem e_134_17 {ls : ab_L} {st : List Value} {w : ab_W} : ab_Run ab_mt 134 17 ls st w = ab_Run ab_mt 134 20 ls (.int (nI 191) :: st) w := E_push (n := 3) rfl
theorem e_134_20 {ls : ab_L} {st : List Value} {w : ab_W} {a : Nat} {i : Int32} (h : ab_inI i (w.2 a) = true) : ab_Run ab_mt 134 20 ls (.int i :: .ref a :: st) w = ab_Run ab_mt 134 21 ls (.int (ab_aI i.toNatClampNeg (w.2 a)) :: st) w := E_iald rfl h
theorem e_134_21 {ls : ab_L} {st : List Value} {w : ab_W} {x : Int32} : ab_Run ab_mt 134 21 ls (.int x :: st) w = ab_Run ab_mt 134 23 (ab_l1 ls 4 (.int x)) st w := E_stori (n := 2) rfl
theorem e_134_23 {ls : ab_L} {st : List Value} {w : ab_W} (h : ab_isR (ls 0) = true) : ab_Run ab_mt 134 23 ls st w = ab_Run ab_mt 134 24 ls (ab_gv (ls 0) :: st) w := E_loadr (n := 1) rfl h
theorem e_134_24 {ls : ab_L} {st : List Value} {w : ab_W} {a : Nat} (h : ab_isF 7 1 (w.2 a) = true) : ab_Run ab_mt 134 24 ls (.ref a :: st) w = ab_Run ab_mt 134 27 ls (ab_fv 1 (w.2 a) :: st) w := E_get rfl h
theorem e_134_27 {ls : ab_L} {st : List Value} {w : ab_W} : ab_Run ab_mt 134 27 ls st w = ab_Run ab_mt 134 30 ls (.int (nI 191) :: st) w := E_push (n := 3) rfl
theorem e_134_30 {ls : ab_L} {st : List Value} {w : ab_W} {x : Nat} {y : Int32} : ab_Run ab_mt 134 30 ls (.int y :: .ref x :: st) w = ab_Run ab_mt 134 31 ls (.int y :: .ref x :: .int y :: .ref x :: st) w := E_dup2 rfl
theorem e_134_31 {ls : ab_L} {st : List Value} {w : ab_W} {a : Nat} {i : Int32} (h : ab_inI i (w.2 a) = true) : ab_Run ab_mt 134 31 ls (.int i :: .ref a :: st) w = ab_Run ab_mt 134 32 ls (.int (ab_aI i.toNatClampNeg (w.2 a)) :: st) w := E_iald rfl h
theorem e_134_32 {ls : ab_L} {st : List Value} {w : ab_W} : ab_Run ab_mt 134 32 ls st w = ab_Run ab_mt 134 33 ls (.int (nI 1) :: st) w := E_push (n := 1) rfl
theorem e_134_33 {ls : ab_L} {st : List Value} {w : ab_W} {x y : Int32} : ab_Run ab_mt 134 33 ls (.int y :: .int x :: st) w = ab_Run ab_mt 134 34 ls (.int (x + y) :: st) w := E_ib (f := fun x y => x + y) rfl
theorem e_134_34 {ls : ab_L} {st : List Value} {w : ab_W} {a : Nat} {i x : Int32} (h : ab_inW i (w.2 a) = true) : ab_Run ab_mt 134 34 ls (.int x :: .int i :: .ref a :: st) w = ab_Run ab_mt 134 35 ls st (w.1, ab_up w.2 a (ab_sI i.toNatClampNeg x (w.2 a))) := E_iast rfl h
theorem e_134_35 {ls : ab_L} {st : List Value} {w : ab_W} (h : ab_isI (ls 4) = true) : ab_Run ab_mt 134 35 ls st w = ab_Run ab_mt 134 37 ls (ab_gv (ls 4) :: st) w := E_loadi (n := 2) rfl h
theorem e_134_37 {ls : ab_L} {st : List Value} {w : ab_W} {x : Int32} : ab_Run ab_mt 134 37 ls (.int x :: st) w = if x ≤ 0 then ab_Run ab_mt 134 106 ls st w else ab_Run ab_mt 134 40 ls st w := E_if_le rfl
theorem e_134_40 {ls : ab_L} {st : List Value} {w : ab_W} (h : ab_isR (ls 0) = true) : ab_Run ab_mt 134 40 ls st w = ab_Run ab_mt 134 41 ls (ab_gv (ls 0) :: st) w := E_loadr (n := 1) rfl h
theorem e_134_41 {ls : ab_L} {st : List Value} {w : ab_W} (h : ab_isI (ls 4) = true) : ab_Run ab_mt 134 41 ls st w = ab_Run ab_mt 134 43 ls (ab_gv (ls 4) :: st) w := E_loadi (n := 2) rfl h
theorem e_134_43 {ls : ab_L} {st : List Value} {w : ab_W} : ab_Run ab_mt 134 43 ls st w = ab_Run ab_mt 134 44 ls (.int (nI 1) :: st) w := E_push (n := 1) rfl
theorem e_134_44 {ls : ab_L} {st : List Value} {w : ab_W} {x y : Int32} : ab_Run ab_mt 134 44 ls (.int y :: .int x :: st) w = ab_Run ab_mt 134 45 ls (.int (x - y) :: st) w := E_ib (f := fun x y => x - y) rfl
theorem e_134_45 {ls : ab_L} {st : List Value} {w : ab_W} : ab_Run ab_mt 134 45 ls st w = ab_Run ab_mt 134 46 ls (.int (nI 0) :: st) w := E_push (n := 1) rfl
theorem e_134_46 {ls : ab_L} {st : List Value} {w : ab_W} {v0 v1 v2 : Value} (h1 : ab_recv ab_mt 110 [v0, v1, v2] w.2 = true) (h8 : ab_w8 st = true) : ab_Run ab_mt 134 46 ls (v2 :: v1 :: v0 :: st) w = ab_aft 110 134 46 ls st (ab_Cl 110 [v0, v1, v2] w) := E_call3 rfl h1 h8
theorem e_134_49 {ls : ab_L} {st : List Value} {w : ab_W} (h : ab_isI (ls 1) = true) : ab_Run ab_mt 134 49 ls st w = ab_Run ab_mt 134 50 ls (ab_gv (ls 1) :: st) w := E_loadi (n := 1) rfl h
theorem e_134_50 {ls : ab_L} {st : List Value} {w : ab_W} {x y : Int32} : ab_Run ab_mt 134 50 ls (.int y :: .int x :: st) w = if x ≤ y then ab_Run ab_mt 134 106 ls st w else ab_Run ab_mt 134 53 ls st w := E_ic_le rfl
theorem e_134_53 {ls : ab_L} {st : List Value} {w : ab_W} : ab_Run ab_mt 134 53 ls st w = ab_Run ab_mt 134 54 ls (.int (nI 0) :: st) w := E_push (n := 1) rfl
theorem e_134_54 {ls : ab_L} {st : List Value} {w : ab_W} {x : Int32} : ab_Run ab_mt 134 54 ls (.int x :: st) w = ab_Run ab_mt 134 56 (ab_l1 ls 5 (.int x)) st w := E_stori (n := 2) rfl
theorem e_134_56 {ls : ab_L} {st : List Value} {w : ab_W} (h : ab_isI (ls 5) = true) : ab_Run ab_mt 134 56 ls st w = ab_Run ab_mt 134 58 ls (ab_gv (ls 5) :: st) w := E_loadi (n := 2) rfl h
theorem e_134_58 {ls : ab_L} {st : List Value} {w : ab_W} : ab_Run ab_mt 134 58 ls st w = ab_Run ab_mt 134 59 ls (.int (nI 3) :: st) w := E_push (n := 1) rfl
theorem e_134_59 {ls : ab_L} {st : List Value} {w : ab_W} {x y : Int32} : ab_Run ab_mt 134 59 ls (.int y :: .int x :: st) w = if y ≤ x then ab_Run ab_mt 134 100 ls st w else ab_Run ab_mt 134 62 ls st w := E_ic_ge rfl
theorem e_134_62 {ls : ab_L} {st : List Value} {w : ab_W} (h : ab_isR (ls 0) = true) : ab_Run ab_mt 134 62 ls st w = ab_Run ab_mt 134 63 ls (ab_gv (ls 0) :: st) w := E_loadr (n := 1) rfl h
theorem e_134_63 {ls : ab_L} {st : List Value} {w : ab_W} {a : Nat} (h : ab_isF 7 1 (w.2 a) = true) : ab_Run ab_mt 134 63 ls (.ref a :: st) w = ab_Run ab_mt 134 66 ls (ab_fv 1 (w.2 a) :: st) w := E_get rfl h
theorem e_134_66 {ls : ab_L} {st : List Value} {w : ab_W} : ab_Run ab_mt 134 66 ls st w = ab_Run ab_mt 134 68 ls (.int (nI 120) :: st) w := E_push (n := 2) rfl
theorem e_134_68 {ls : ab_L} {st : List Value} {w : ab_W} : ab_Run ab_mt 134 68 ls st w = ab_Run ab_mt 134 69 ls (.int (nI 3) :: st) w := E_push (n := 1) rfl
theorem e_134_69 {ls : ab_L} {st : List Value} {w : ab_W} (h : ab_isI (ls 4) = true) : ab_Run ab_mt 134 69 ls st w = ab_Run ab_mt 134 71 ls (ab_gv (ls 4) :: st) w := E_loadi (n := 2) rfl h
theorem e_134_71 {ls : ab_L} {st : List Value} {w : ab_W} {x y : Int32} : ab_Run ab_mt 134 71 ls (.int y :: .int x :: st) w = ab_Run ab_mt 134 72 ls (.int (x * y) :: st) w := E_ib (f := fun x y => x * y) rfl
theorem e_134_72 {ls : ab_L} {st : List Value} {w : ab_W} {x y : Int32} : ab_Run ab_mt 134 72 ls (.int y :: .int x :: st) w = ab_Run ab_mt 134 73 ls (.int (x + y) :: st) w := E_ib (f := fun x y => x + y) rfl
theorem e_134_73 {ls : ab_L} {st : List Value} {w : ab_W} (h : ab_isI (ls 5) = true) : ab_Run ab_mt 134 73 ls st w = ab_Run ab_mt 134 75 ls (ab_gv (ls 5) :: st) w := E_loadi (n := 2) rfl h
theorem e_134_75 {ls : ab_L} {st : List Value} {w : ab_W} {x y : Int32} : ab_Run ab_mt 134 75 ls (.int y :: .int x :: st) w = ab_Run ab_mt 134 76 ls (.int (x + y) :: st) w := E_ib (f := fun x y => x + y) rfl
theorem e_134_76 {ls : ab_L} {st : List Value} {w : ab_W} (h : ab_isR (ls 0) = true) : ab_Run ab_mt 134 76 ls st w = ab_Run ab_mt 134 77 ls (ab_gv (ls 0) :: st) w := E_loadr (n := 1) rfl h
theorem e_134_77 {ls : ab_L} {st : List Value} {w : ab_W} {a : Nat} (h : ab_isF 7 1 (w.2 a) = true) : ab_Run ab_mt 134 77 ls (.ref a :: st) w = ab_Run ab_mt 134 80 ls (ab_fv 1 (w.2 a) :: st) w := E_get rfl h
theorem e_134_80 {ls : ab_L} {st : List Value} {w : ab_W} : ab_Run ab_mt 134 80 ls st w = ab_Run ab_mt 134 82 ls (.int (nI 120) :: st) w := E_push (n := 2) rfl
theorem e_134_82 {ls : ab_L} {st : List Value} {w : ab_W} : ab_Run ab_mt 134 82 ls st w = ab_Run ab_mt 134 83 ls (.int (nI 3) :: st) w := E_push (n := 1) rfl
theorem e_134_83 {ls : ab_L} {st : List Value} {w : ab_W} (h : ab_isI (ls 4) = true) : ab_Run ab_mt 134 83 ls st w = ab_Run ab_mt 134 85 ls (ab_gv (ls 4) :: st) w := E_loadi (n := 2) rfl h
theorem e_134_85 {ls : ab_L} {st : List Value} {w : ab_W} {x y : Int32} : ab_Run ab_mt 134 85 ls (.int y :: .int x :: st) w = ab_Run ab_mt 134 86 ls (.int (x * y) :: st) w := E_ib (f := fun x y => x * y) rfl
theorem e_134_86 {ls : ab_L} {st : List Value} {w : ab_W} {x y : Int32} : ab_Run ab_mt 134 86 ls (.int y :: .int x :: st) w = ab_Run ab_mt 134 87 ls (.int (x + y) :: st) w := E_ib (f := fun x y => x + y) rfl
theorem e_134_87 {ls : ab_L} {st : List Value} {w : ab_W} : ab_Run ab_mt 134 87 ls st w = ab_Run ab_mt 134 88 ls (.int (nI 3) :: st) w := E_push (n := 1) rfl
theorem e_134_88 {ls : ab_L} {st : List Value} {w : ab_W} {x y : Int32} : ab_Run ab_mt 134 88 ls (.int y :: .int x :: st) w = ab_Run ab_mt 134 89 ls (.int (x - y) :: st) w := E_ib (f := fun x y => x - y) rfl
theorem e_134_89 {ls : ab_L} {st : List Value} {w : ab_W} (h : ab_isI (ls 5) = true) : ab_Run ab_mt 134 89 ls st w = ab_Run ab_mt 134 91 ls (ab_gv (ls 5) :: st) w := E_loadi (n := 2) rfl h
theorem e_134_91 {ls : ab_L} {st : List Value} {w : ab_W} {x y : Int32} : ab_Run ab_mt 134 91 ls (.int y :: .int x :: st) w = ab_Run ab_mt 134 92 ls (.int (x + y) :: st) w := E_ib (f := fun x y => x + y) rfl
theorem e_134_92 {ls : ab_L} {st : List Value} {w : ab_W} {a : Nat} {i : Int32} (h : ab_inI i (w.2 a) = true) : ab_Run ab_mt 134 92 ls (.int i :: .ref a :: st) w = ab_Run ab_mt 134 93 ls (.int (ab_aI i.toNatClampNeg (w.2 a)) :: st) w := E_iald rfl h
theorem e_134_93 {ls : ab_L} {st : List Value} {w : ab_W} {a : Nat} {i x : Int32} (h : ab_inW i (w.2 a) = true) : ab_Run ab_mt 134 93 ls (.int x :: .int i :: .ref a :: st) w = ab_Run ab_mt 134 94 ls st (w.1, ab_up w.2 a (ab_sI i.toNatClampNeg x (w.2 a))) := E_iast rfl h
theorem e_134_94 {ls : ab_L} {st : List Value} {w : ab_W} (h : ab_isI (ls 5) = true) : ab_Run ab_mt 134 94 ls st w = ab_Run ab_mt 134 97 (ab_l1 ls 5 (.int (ab_gi (ls 5) + (nI 1)))) st w := E_iinc rfl h
theorem e_134_97 {ls : ab_L} {st : List Value} {w : ab_W} : ab_Run ab_mt 134 97 ls st w = ab_Run ab_mt 134 56 ls st w := E_goto rfl
theorem e_134_100 {ls : ab_L} {st : List Value} {w : ab_W} (h : ab_isI (ls 4) = true) : ab_Run ab_mt 134 100 ls st w = ab_Run ab_mt 134 103 (ab_l1 ls 4 (.int (ab_gi (ls 4) + (-1)))) st w := E_iinc rfl h
theorem e_134_103 {ls : ab_L} {st : List Value} {w : ab_W} : ab_Run ab_mt 134 103 ls st w = ab_Run ab_mt 134 35 ls st w := E_goto rfl
theorem e_134_106 {ls : ab_L} {st : List Value} {w : ab_W} (h : ab_isR (ls 0) = true) : ab_Run ab_mt 134 106 ls st w = ab_Run ab_mt 134 107 ls (ab_gv (ls 0) :: st) w := E_loadr (n := 1) rfl h
theorem e_134_107 {ls : ab_L} {st : List Value} {w : ab_W} {a : Nat} (h : ab_isF 7 1 (w.2 a) = true) : ab_Run ab_mt 134 107 ls (.ref a :: st) w = ab_Run ab_mt 134 110 ls (ab_fv 1 (w.2 a) :: st) w := E_get rfl h
theorem e_134_110 {ls : ab_L} {st : List Value} {w : ab_W} : ab_Run ab_mt 134 110 ls st w = ab_Run ab_mt 134 112 ls (.int (nI 120) :: st) w := E_push (n := 2) rfl
theorem e_134_112 {ls : ab_L} {st : List Value} {w : ab_W} : ab_Run ab_mt 134 112 ls st w = ab_Run ab_mt 134 113 ls (.int (nI 3) :: st) w := E_push (n := 1) rfl
theorem e_134_113 {ls : ab_L} {st : List Value} {w : ab_W} (h : ab_isI (ls 4) = true) : ab_Run ab_mt 134 113 ls st w = ab_Run ab_mt 134 115 ls (ab_gv (ls 4) :: st) w := E_loadi (n := 2) rfl h
theorem e_134_115 {ls : ab_L} {st : List Value} {w : ab_W} {x y : Int32} : ab_Run ab_mt 134 115 ls (.int y :: .int x :: st) w = ab_Run ab_mt 134 116 ls (.int (x * y) :: st) w := E_ib (f := fun x y => x * y) rfl
theorem e_134_116 {ls : ab_L} {st : List Value} {w : ab_W} {x y : Int32} : ab_Run ab_mt 134 116 ls (.int y :: .int x :: st) w = ab_Run ab_mt 134 117 ls (.int (x + y) :: st) w := E_ib (f := fun x y => x + y) rfl
theorem e_134_117 {ls : ab_L} {st : List Value} {w : ab_W} (h : ab_isI (ls 1) = true) : ab_Run ab_mt 134 117 ls st w = ab_Run ab_mt 134 118 ls (ab_gv (ls 1) :: st) w := E_loadi (n := 1) rfl h
theorem e_134_118 {ls : ab_L} {st : List Value} {w : ab_W} {a : Nat} {i x : Int32} (h : ab_inW i (w.2 a) = true) : ab_Run ab_mt 134 118 ls (.int x :: .int i :: .ref a :: st) w = ab_Run ab_mt 134 119 ls st (w.1, ab_up w.2 a (ab_sI i.toNatClampNeg x (w.2 a))) := E_iast rfl h
theorem e_134_119 {ls : ab_L} {st : List Value} {w : ab_W} (h : ab_isR (ls 0) = true) : ab_Run ab_mt 134 119 ls st w = ab_Run ab_mt 134 120 ls (ab_gv (ls 0) :: st) w := E_loadr (n := 1) rfl h
theorem e_134_120 {ls : ab_L} {st : List Value} {w : ab_W} {a : Nat} (h : ab_isF 7 1 (w.2 a) = true) : ab_Run ab_mt 134 120 ls (.ref a :: st) w = ab_Run ab_mt 134 123 ls (ab_fv 1 (w.2 a) :: st) w := E_get rfl h
theorem e_134_123 {ls : ab_L} {st : List Value} {w : ab_W} : ab_Run ab_mt 134 123 ls st w = ab_Run ab_mt 134 125 ls (.int (nI 120) :: st) w := E_push (n := 2) rfl
theorem e_134_125 {ls : ab_L} {st : List Value} {w : ab_W} : ab_Run ab_mt 134 125 ls st w = ab_Run ab_mt 134 126 ls (.int (nI 3) :: st) w := E_push (n := 1) rfl
theorem e_134_126 {ls : ab_L} {st : List Value} {w : ab_W} (h : ab_isI (ls 4) = true) : ab_Run ab_mt 134 126 ls st w = ab_Run ab_mt 134 128 ls (ab_gv (ls 4) :: st) w := E_loadi (n := 2) rfl h
theorem e_134_128 {ls : ab_L} {st : List Value} {w : ab_W} {x y : Int32} : ab_Run ab_mt 134 128 ls (.int y :: .int x :: st) w = ab_Run ab_mt 134 129 ls (.int (x * y) :: st) w := E_ib (f := fun x y => x * y) rfl
theorem e_134_129 {ls : ab_L} {st : List Value} {w : ab_W} {x y : Int32} : ab_Run ab_mt 134 129 ls (.int y :: .int x :: st) w = ab_Run ab_mt 134 130 ls (.int (x + y) :: st) w := E_ib (f := fun x y => x + y) rfl
theorem e_134_130 {ls : ab_L} {st : List Value} {w : ab_W} : ab_Run ab_mt 134 130 ls st w = ab_Run ab_mt 134 131 ls (.int (nI 1) :: st) w := E_push (n := 1) rfl
theorem e_134_131 {ls : ab_L} {st : List Value} {w : ab_W} {x y : Int32} : ab_Run ab_mt 134 131 ls (.int y :: .int x :: st) w = ab_Run ab_mt 134 132 ls (.int (x + y) :: st) w := E_ib (f := fun x y => x + y) rfl
theorem e_134_132 {ls : ab_L} {st : List Value} {w : ab_W} (h : ab_isI (ls 2) = true) : ab_Run ab_mt 134 132 ls st w = ab_Run ab_mt 134 133 ls (ab_gv (ls 2) :: st) w := E_loadi (n := 1) rfl h
theorem e_134_133 {ls : ab_L} {st : List Value} {w : ab_W} {a : Nat} {i x : Int32} (h : ab_inW i (w.2 a) = true) : ab_Run ab_mt 134 133 ls (.int x :: .int i :: .ref a :: st) w = ab_Run ab_mt 134 134 ls st (w.1, ab_up w.2 a (ab_sI i.toNatClampNeg x (w.2 a))) := E_iast rfl h
theorem e_134_134 {ls : ab_L} {st : List Value} {w : ab_W} (h : ab_isR (ls 0) = true) : ab_Run ab_mt 134 134 ls st w = ab_Run ab_mt 134 135 ls (ab_gv (ls 0) :: st) w := E_loadr (n := 1) rfl h
theorem e_134_135 {ls : ab_L} {st : List Value} {w : ab_W} {a : Nat} (h : ab_isF 7 1 (w.2 a) = true) : ab_Run ab_mt 134 135 ls (.ref a :: st) w = ab_Run ab_mt 134 138 ls (ab_fv 1 (w.2 a) :: st) w := E_get rfl h
theorem e_134_138 {ls : ab_L} {st : List Value} {w : ab_W} : ab_Run ab_mt 134 138 ls st w = ab_Run ab_mt 134 140 ls (.int (nI 120) :: st) w := E_push (n := 2) rfl
theorem e_134_140 {ls : ab_L} {st : List Value} {w : ab_W} : ab_Run ab_mt 134 140 ls st w = ab_Run ab_mt 134 141 ls (.int (nI 3) :: st) w := E_push (n := 1) rfl
theorem e_134_141 {ls : ab_L} {st : List Value} {w : ab_W} (h : ab_isI (ls 4) = true) : ab_Run ab_mt 134 141 ls st w = ab_Run ab_mt 134 143 ls (ab_gv (ls 4) :: st) w := E_loadi (n := 2) rfl h
theorem e_134_143 {ls : ab_L} {st : List Value} {w : ab_W} {x y : Int32} : ab_Run ab_mt 134 143 ls (.int y :: .int x :: st) w = ab_Run ab_mt 134 144 ls (.int (x * y) :: st) w := E_ib (f := fun x y => x * y) rfl
theorem e_134_144 {ls : ab_L} {st : List Value} {w : ab_W} {x y : Int32} : ab_Run ab_mt 134 144 ls (.int y :: .int x :: st) w = ab_Run ab_mt 134 145 ls (.int (x + y) :: st) w := E_ib (f := fun x y => x + y) rfl
theorem e_134_145 {ls : ab_L} {st : List Value} {w : ab_W} : ab_Run ab_mt 134 145 ls st w = ab_Run ab_mt 134 146 ls (.int (nI 2) :: st) w := E_push (n := 1) rfl
theorem e_134_146 {ls : ab_L} {st : List Value} {w : ab_W} {x y : Int32} : ab_Run ab_mt 134 146 ls (.int y :: .int x :: st) w = ab_Run ab_mt 134 147 ls (.int (x + y) :: st) w := E_ib (f := fun x y => x + y) rfl
theorem e_134_147 {ls : ab_L} {st : List Value} {w : ab_W} (h : ab_isI (ls 3) = true) : ab_Run ab_mt 134 147 ls st w = ab_Run ab_mt 134 148 ls (ab_gv (ls 3) :: st) w := E_loadi (n := 1) rfl h
theorem e_134_148 {ls : ab_L} {st : List Value} {w : ab_W} {a : Nat} {i x : Int32} (h : ab_inW i (w.2 a) = true) : ab_Run ab_mt 134 148 ls (.int x :: .int i :: .ref a :: st) w = ab_Run ab_mt 134 149 ls st (w.1, ab_up w.2 a (ab_sI i.toNatClampNeg x (w.2 a))) := E_iast rfl h
theorem e_134_149 {ls : ab_L} {w : ab_W} : ab_Run ab_mt 134 149 ls [] w = some (.inl none, w) := E_ret0 rfl
theorem rv_134 {σ : ab_S} {t : Nat} {x0 : Int32} {x1 : Int32} {x2 : Int32} : ab_recv ab_mt 134 [.ref t, .int x0, .int x1, .int x2] σ = ab_isO 7 (σ t) := rfl
