/-! the equations of runs, an instruction each: printed by wip/whole/gen_step.py -/
theorem e_135_0 {ls : ab_L} {st : List Value} {w : ab_W} (h : ab_isI (ls 0) = true) : ab_Run ab_mt 135 0 ls st w = ab_Run ab_mt 135 1 ls (ab_gv (ls 0) :: st) w := E_loadi (n := 1) rfl h
theorem e_135_1 {ls : ab_L} {st : List Value} {w : ab_W} {x : Int32} : ab_Run ab_mt 135 1 ls (.int x :: st) w = ab_Run ab_mt 135 2 ls (.long x.toInt64 :: st) w := E_i2l rfl
theorem e_135_2 {ls : ab_L} {st : List Value} {w : ab_W} : ab_Run ab_mt 135 2 ls st w = ab_Run ab_mt 135 3 ls (.long (lN 0) :: st) w := E_push (n := 1) rfl
theorem e_135_3 {ls : ab_L} {st : List Value} {w : ab_W} : ab_Run ab_mt 135 3 ls st w = ab_Run ab_mt 135 6 ls (.long (lN 287) :: st) w := E_push (n := 3) rfl
theorem e_135_6 {ls : ab_L} {st : List Value} {w : ab_W} {v0 v1 v2 : Value} (h1 : ab_recv ab_mt 107 [v0, v1, v2] w.2 = true) (h8 : ab_w8 st = true) : ab_Run ab_mt 135 6 ls (v2 :: v1 :: v0 :: st) w = ab_aft 107 135 6 ls st (ab_Cl 107 [v0, v1, v2] w) := E_call3 rfl h1 h8
theorem e_135_9 {ls : ab_L} {st : List Value} {w : ab_W} {x : Int32} : ab_Run ab_mt 135 9 ls (.int x :: st) w = if x = 0 then ab_Run ab_mt 135 30 ls st w else ab_Run ab_mt 135 12 ls st w := E_if_eq rfl
theorem e_135_12 {ls : ab_L} {st : List Value} {w : ab_W} (h : ab_isI (ls 1) = true) : ab_Run ab_mt 135 12 ls st w = ab_Run ab_mt 135 13 ls (ab_gv (ls 1) :: st) w := E_loadi (n := 1) rfl h
theorem e_135_13 {ls : ab_L} {st : List Value} {w : ab_W} {x : Int32} : ab_Run ab_mt 135 13 ls (.int x :: st) w = ab_Run ab_mt 135 14 ls (.long x.toInt64 :: st) w := E_i2l rfl
theorem e_135_14 {ls : ab_L} {st : List Value} {w : ab_W} : ab_Run ab_mt 135 14 ls st w = ab_Run ab_mt 135 17 ls (.long (lN 200) :: st) w := E_push (n := 3) rfl
theorem e_135_17 {ls : ab_L} {st : List Value} {w : ab_W} : ab_Run ab_mt 135 17 ls st w = ab_Run ab_mt 135 20 ls (.long (lN 4000) :: st) w := E_push (n := 3) rfl
theorem e_135_20 {ls : ab_L} {st : List Value} {w : ab_W} {v0 v1 v2 : Value} (h1 : ab_recv ab_mt 107 [v0, v1, v2] w.2 = true) (h8 : ab_w8 st = true) : ab_Run ab_mt 135 20 ls (v2 :: v1 :: v0 :: st) w = ab_aft 107 135 20 ls st (ab_Cl 107 [v0, v1, v2] w) := E_call3 rfl h1 h8
theorem e_135_23 {ls : ab_L} {st : List Value} {w : ab_W} {x : Int32} : ab_Run ab_mt 135 23 ls (.int x :: st) w = if x = 0 then ab_Run ab_mt 135 30 ls st w else ab_Run ab_mt 135 26 ls st w := E_if_eq rfl
theorem e_135_26 {ls : ab_L} {st : List Value} {w : ab_W} : ab_Run ab_mt 135 26 ls st w = ab_Run ab_mt 135 27 ls (.int (nI 1) :: st) w := E_push (n := 1) rfl
theorem e_135_27 {ls : ab_L} {st : List Value} {w : ab_W} : ab_Run ab_mt 135 27 ls st w = ab_Run ab_mt 135 31 ls st w := E_goto rfl
theorem e_135_30 {ls : ab_L} {st : List Value} {w : ab_W} : ab_Run ab_mt 135 30 ls st w = ab_Run ab_mt 135 31 ls (.int (nI 0) :: st) w := E_push (n := 1) rfl
theorem e_135_31 {ls : ab_L} {w : ab_W} {x : Int32} (h : ab_fitr 2 (.int x) = true) : ab_Run ab_mt 135 31 ls [.int x] w = some (.inl (some (.int x)), w) := E_retz rfl h
theorem rv_135 {σ : ab_S} {x0 : Int32} {x1 : Int32} : ab_recv ab_mt 135 [.int x0, .int x1] σ = true := rfl
theorem e_136_0 {ls : ab_L} {st : List Value} {w : ab_W} (h : ab_isR (ls 0) = true) : ab_Run ab_mt 136 0 ls st w = ab_Run ab_mt 136 1 ls (ab_gv (ls 0) :: st) w := E_loadr (n := 1) rfl h
theorem e_136_1 {ls : ab_L} {st : List Value} {w : ab_W} (h : ab_isI (ls 1) = true) : ab_Run ab_mt 136 1 ls st w = ab_Run ab_mt 136 2 ls (ab_gv (ls 1) :: st) w := E_loadi (n := 1) rfl h
theorem e_136_2 {ls : ab_L} {st : List Value} {w : ab_W} (h : ab_isI (ls 2) = true) : ab_Run ab_mt 136 2 ls st w = ab_Run ab_mt 136 3 ls (ab_gv (ls 2) :: st) w := E_loadi (n := 1) rfl h
theorem e_136_3 {ls : ab_L} {st : List Value} {w : ab_W} {v0 v1 : Value} (h1 : ab_recv ab_mt 135 [v0, v1] w.2 = true) (h8 : ab_w8 st = true) : ab_Run ab_mt 136 3 ls (v1 :: v0 :: st) w = ab_aft 135 136 3 ls st (ab_Cl 135 [v0, v1] w) := E_call2 rfl h1 h8
theorem e_136_6 {ls : ab_L} {st : List Value} {w : ab_W} {x : Int32} : ab_Run ab_mt 136 6 ls (.int x :: st) w = if x = 0 then ab_Run ab_mt 136 9 ls st w else ab_Run ab_mt 136 13 ls st w := E_if_ne rfl
theorem e_136_9 {ls : ab_L} {st : List Value} {w : ab_W} : ab_Run ab_mt 136 9 ls st w = ab_Run ab_mt 136 10 ls (.int (nI 1) :: st) w := E_push (n := 1) rfl
theorem e_136_10 {ls : ab_L} {st : List Value} {w : ab_W} : ab_Run ab_mt 136 10 ls st w = ab_Run ab_mt 136 47 ls st w := E_goto rfl
theorem e_136_13 {ls : ab_L} {st : List Value} {w : ab_W} (h : ab_isR (ls 0) = true) : ab_Run ab_mt 136 13 ls st w = ab_Run ab_mt 136 14 ls (ab_gv (ls 0) :: st) w := E_loadr (n := 1) rfl h
theorem e_136_14 {ls : ab_L} {st : List Value} {w : ab_W} {a : Nat} (h : ab_isF 7 9 (w.2 a) = true) : ab_Run ab_mt 136 14 ls (.ref a :: st) w = ab_Run ab_mt 136 17 ls (ab_fv 9 (w.2 a) :: st) w := E_get rfl h
theorem e_136_17 {ls : ab_L} {st : List Value} {w : ab_W} {x : Int32} : ab_Run ab_mt 136 17 ls (.int x :: st) w = if x = 0 then ab_Run ab_mt 136 20 ls st w else ab_Run ab_mt 136 42 ls st w := E_if_ne rfl
theorem e_136_20 {ls : ab_L} {st : List Value} {w : ab_W} (h : ab_isR (ls 0) = true) : ab_Run ab_mt 136 20 ls st w = ab_Run ab_mt 136 21 ls (ab_gv (ls 0) :: st) w := E_loadr (n := 1) rfl h
theorem e_136_21 {ls : ab_L} {st : List Value} {w : ab_W} {a : Nat} (h : ab_isF 7 1 (w.2 a) = true) : ab_Run ab_mt 136 21 ls (.ref a :: st) w = ab_Run ab_mt 136 24 ls (ab_fv 1 (w.2 a) :: st) w := E_get rfl h
theorem e_136_24 {ls : ab_L} {st : List Value} {w : ab_W} : ab_Run ab_mt 136 24 ls st w = ab_Run ab_mt 136 27 ls (.int (nI 191) :: st) w := E_push (n := 3) rfl
theorem e_136_27 {ls : ab_L} {st : List Value} {w : ab_W} {a : Nat} {i : Int32} (h : ab_inI i (w.2 a) = true) : ab_Run ab_mt 136 27 ls (.int i :: .ref a :: st) w = ab_Run ab_mt 136 28 ls (.int (ab_aI i.toNatClampNeg (w.2 a)) :: st) w := E_iald rfl h
theorem e_136_28 {ls : ab_L} {st : List Value} {w : ab_W} : ab_Run ab_mt 136 28 ls st w = ab_Run ab_mt 136 30 ls (.int (nI 10) :: st) w := E_push (n := 2) rfl
theorem e_136_30 {ls : ab_L} {st : List Value} {w : ab_W} {x y : Int32} : ab_Run ab_mt 136 30 ls (.int y :: .int x :: st) w = if x = y then ab_Run ab_mt 136 33 ls st w else ab_Run ab_mt 136 46 ls st w := E_ic_ne rfl
theorem e_136_33 {ls : ab_L} {st : List Value} {w : ab_W} (h : ab_isR (ls 0) = true) : ab_Run ab_mt 136 33 ls st w = ab_Run ab_mt 136 34 ls (ab_gv (ls 0) :: st) w := E_loadr (n := 1) rfl h
theorem e_136_34 {ls : ab_L} {st : List Value} {w : ab_W} (h : ab_isI (ls 1) = true) : ab_Run ab_mt 136 34 ls st w = ab_Run ab_mt 136 35 ls (ab_gv (ls 1) :: st) w := E_loadi (n := 1) rfl h
theorem e_136_35 {ls : ab_L} {st : List Value} {w : ab_W} {v0 v1 : Value} (h1 : ab_recv ab_mt 133 [v0, v1] w.2 = true) (h8 : ab_w8 st = true) : ab_Run ab_mt 136 35 ls (v1 :: v0 :: st) w = ab_aft 133 136 35 ls st (ab_Cl 133 [v0, v1] w) := E_call2 rfl h1 h8
theorem e_136_38 {ls : ab_L} {st : List Value} {w : ab_W} : ab_Run ab_mt 136 38 ls st w = ab_Run ab_mt 136 39 ls (.int (-1) :: st) w := E_push (n := 1) rfl
theorem e_136_39 {ls : ab_L} {st : List Value} {w : ab_W} {x y : Int32} : ab_Run ab_mt 136 39 ls (.int y :: .int x :: st) w = if x = y then ab_Run ab_mt 136 42 ls st w else ab_Run ab_mt 136 46 ls st w := E_ic_ne rfl
theorem e_136_42 {ls : ab_L} {st : List Value} {w : ab_W} : ab_Run ab_mt 136 42 ls st w = ab_Run ab_mt 136 43 ls (.int (nI 2) :: st) w := E_push (n := 1) rfl
theorem e_136_43 {ls : ab_L} {st : List Value} {w : ab_W} : ab_Run ab_mt 136 43 ls st w = ab_Run ab_mt 136 47 ls st w := E_goto rfl
theorem e_136_46 {ls : ab_L} {st : List Value} {w : ab_W} : ab_Run ab_mt 136 46 ls st w = ab_Run ab_mt 136 47 ls (.int (nI 0) :: st) w := E_push (n := 1) rfl
theorem e_136_47 {ls : ab_L} {st : List Value} {w : ab_W} {a : Nat} {x : Int32} (h : ab_isF 7 0 (w.2 a) = true) : ab_Run ab_mt 136 47 ls (.int x :: .ref a :: st) w = ab_Run ab_mt 136 50 ls st (w.1, ab_up w.2 a (ab_sf 0 (.int x) (w.2 a))) := E_put rfl h rfl
theorem e_136_50 {ls : ab_L} {st : List Value} {w : ab_W} (h : ab_isR (ls 0) = true) : ab_Run ab_mt 136 50 ls st w = ab_Run ab_mt 136 51 ls (ab_gv (ls 0) :: st) w := E_loadr (n := 1) rfl h
theorem e_136_51 {ls : ab_L} {st : List Value} {w : ab_W} {a : Nat} (h : ab_isF 7 0 (w.2 a) = true) : ab_Run ab_mt 136 51 ls (.ref a :: st) w = ab_Run ab_mt 136 54 ls (ab_fv 0 (w.2 a) :: st) w := E_get rfl h
theorem e_136_54 {ls : ab_L} {st : List Value} {w : ab_W} {x : Int32} : ab_Run ab_mt 136 54 ls (.int x :: st) w = if x ≤ 0 then ab_Run ab_mt 136 59 ls st w else ab_Run ab_mt 136 57 ls st w := E_if_le rfl
theorem e_136_57 {ls : ab_L} {st : List Value} {w : ab_W} : ab_Run ab_mt 136 57 ls st w = ab_Run ab_mt 136 58 ls (.int (nI 0) :: st) w := E_push (n := 1) rfl
theorem e_136_58 {ls : ab_L} {w : ab_W} {x : Int32} : ab_Run ab_mt 136 58 ls [.int x] w = some (.inl (some (.int x)), w) := E_reti rfl
theorem e_136_59 {ls : ab_L} {st : List Value} {w : ab_W} (h : ab_isR (ls 0) = true) : ab_Run ab_mt 136 59 ls st w = ab_Run ab_mt 136 60 ls (ab_gv (ls 0) :: st) w := E_loadr (n := 1) rfl h
theorem e_136_60 {ls : ab_L} {st : List Value} {w : ab_W} {v0 : Value} (h1 : ab_recv ab_mt 117 [v0] w.2 = true) (h8 : ab_w8 st = true) : ab_Run ab_mt 136 60 ls (v0 :: st) w = ab_aft 117 136 60 ls st (ab_Cl 117 [v0] w) := E_call1 rfl h1 h8
theorem e_136_63 {ls : ab_L} {st : List Value} {w : ab_W} (h : ab_isR (ls 0) = true) : ab_Run ab_mt 136 63 ls st w = ab_Run ab_mt 136 64 ls (ab_gv (ls 0) :: st) w := E_loadr (n := 1) rfl h
theorem e_136_64 {ls : ab_L} {st : List Value} {w : ab_W} (h : ab_isI (ls 1) = true) : ab_Run ab_mt 136 64 ls st w = ab_Run ab_mt 136 65 ls (ab_gv (ls 1) :: st) w := E_loadi (n := 1) rfl h
theorem e_136_65 {ls : ab_L} {st : List Value} {w : ab_W} (h : ab_isI (ls 2) = true) : ab_Run ab_mt 136 65 ls st w = ab_Run ab_mt 136 66 ls (ab_gv (ls 2) :: st) w := E_loadi (n := 1) rfl h
theorem e_136_66 {ls : ab_L} {st : List Value} {w : ab_W} (h : ab_isI (ls 3) = true) : ab_Run ab_mt 136 66 ls st w = ab_Run ab_mt 136 67 ls (ab_gv (ls 3) :: st) w := E_loadi (n := 1) rfl h
theorem e_136_67 {ls : ab_L} {st : List Value} {w : ab_W} {x : Int32} : ab_Run ab_mt 136 67 ls (.int x :: st) w = if x = 0 then ab_Run ab_mt 136 74 ls st w else ab_Run ab_mt 136 70 ls st w := E_if_eq rfl
theorem e_136_70 {ls : ab_L} {st : List Value} {w : ab_W} : ab_Run ab_mt 136 70 ls st w = ab_Run ab_mt 136 71 ls (.int (nI 1) :: st) w := E_push (n := 1) rfl
theorem e_136_71 {ls : ab_L} {st : List Value} {w : ab_W} : ab_Run ab_mt 136 71 ls st w = ab_Run ab_mt 136 75 ls st w := E_goto rfl
theorem e_136_74 {ls : ab_L} {st : List Value} {w : ab_W} : ab_Run ab_mt 136 74 ls st w = ab_Run ab_mt 136 75 ls (.int (nI 0) :: st) w := E_push (n := 1) rfl
theorem e_136_75 {ls : ab_L} {st : List Value} {w : ab_W} {v0 v1 v2 v3 : Value} (h1 : ab_recv ab_mt 134 [v0, v1, v2, v3] w.2 = true) (h8 : ab_w8 st = true) : ab_Run ab_mt 136 75 ls (v3 :: v2 :: v1 :: v0 :: st) w = ab_aft 134 136 75 ls st (ab_Cl 134 [v0, v1, v2, v3] w) := E_call4 rfl h1 h8
theorem e_136_78 {ls : ab_L} {st : List Value} {w : ab_W} (h : ab_isR (ls 0) = true) : ab_Run ab_mt 136 78 ls st w = ab_Run ab_mt 136 79 ls (ab_gv (ls 0) :: st) w := E_loadr (n := 1) rfl h
theorem e_136_79 {ls : ab_L} {st : List Value} {w : ab_W} {a : Nat} (h : ab_isF 7 1 (w.2 a) = true) : ab_Run ab_mt 136 79 ls (.ref a :: st) w = ab_Run ab_mt 136 82 ls (ab_fv 1 (w.2 a) :: st) w := E_get rfl h
theorem e_136_82 {ls : ab_L} {st : List Value} {w : ab_W} : ab_Run ab_mt 136 82 ls st w = ab_Run ab_mt 136 85 ls (.int (nI 191) :: st) w := E_push (n := 3) rfl
theorem e_136_85 {ls : ab_L} {st : List Value} {w : ab_W} {a : Nat} {i : Int32} (h : ab_inI i (w.2 a) = true) : ab_Run ab_mt 136 85 ls (.int i :: .ref a :: st) w = ab_Run ab_mt 136 86 ls (.int (ab_aI i.toNatClampNeg (w.2 a)) :: st) w := E_iald rfl h
theorem e_136_86 {ls : ab_L} {w : ab_W} {x : Int32} : ab_Run ab_mt 136 86 ls [.int x] w = some (.inl (some (.int x)), w) := E_reti rfl
theorem rv_136 {σ : ab_S} {t : Nat} {x0 : Int32} {x1 : Int32} {x2 : Int32} : ab_recv ab_mt 136 [.ref t, .int x0, .int x1, .int x2] σ = ab_isO 7 (σ t) := rfl
theorem e_137_0 {ls : ab_L} {st : List Value} {w : ab_W} (h : ab_isR (ls 0) = true) : ab_Run ab_mt 137 0 ls st w = ab_Run ab_mt 137 1 ls (ab_gv (ls 0) :: st) w := E_loadr (n := 1) rfl h
theorem e_137_1 {ls : ab_L} {st : List Value} {w : ab_W} (h : ab_isI (ls 1) = true) : ab_Run ab_mt 137 1 ls st w = ab_Run ab_mt 137 2 ls (ab_gv (ls 1) :: st) w := E_loadi (n := 1) rfl h
theorem e_137_2 {ls : ab_L} {st : List Value} {w : ab_W} {x : Int32} : ab_Run ab_mt 137 2 ls (.int x :: st) w = ab_Run ab_mt 137 3 ls (.long x.toInt64 :: st) w := E_i2l rfl
theorem e_137_3 {ls : ab_L} {st : List Value} {w : ab_W} : ab_Run ab_mt 137 3 ls st w = ab_Run ab_mt 137 4 ls (.long (lN 0) :: st) w := E_push (n := 1) rfl
theorem e_137_4 {ls : ab_L} {st : List Value} {w : ab_W} (h : ab_isR (ls 0) = true) : ab_Run ab_mt 137 4 ls st w = ab_Run ab_mt 137 5 ls (ab_gv (ls 0) :: st) w := E_loadr (n := 1) rfl h
theorem e_137_5 {ls : ab_L} {st : List Value} {w : ab_W} {a : Nat} (h : ab_isF 7 1 (w.2 a) = true) : ab_Run ab_mt 137 5 ls (.ref a :: st) w = ab_Run ab_mt 137 8 ls (ab_fv 1 (w.2 a) :: st) w := E_get rfl h
theorem e_137_8 {ls : ab_L} {st : List Value} {w : ab_W} : ab_Run ab_mt 137 8 ls st w = ab_Run ab_mt 137 11 ls (.int (nI 191) :: st) w := E_push (n := 3) rfl
theorem e_137_11 {ls : ab_L} {st : List Value} {w : ab_W} {a : Nat} {i : Int32} (h : ab_inI i (w.2 a) = true) : ab_Run ab_mt 137 11 ls (.int i :: .ref a :: st) w = ab_Run ab_mt 137 12 ls (.int (ab_aI i.toNatClampNeg (w.2 a)) :: st) w := E_iald rfl h
theorem e_137_12 {ls : ab_L} {st : List Value} {w : ab_W} : ab_Run ab_mt 137 12 ls st w = ab_Run ab_mt 137 13 ls (.int (nI 1) :: st) w := E_push (n := 1) rfl
theorem e_137_13 {ls : ab_L} {st : List Value} {w : ab_W} {x y : Int32} : ab_Run ab_mt 137 13 ls (.int y :: .int x :: st) w = ab_Run ab_mt 137 14 ls (.int (x - y) :: st) w := E_ib (f := fun x y => x - y) rfl
theorem e_137_14 {ls : ab_L} {st : List Value} {w : ab_W} {x : Int32} : ab_Run ab_mt 137 14 ls (.int x :: st) w = ab_Run ab_mt 137 15 ls (.long x.toInt64 :: st) w := E_i2l rfl
theorem e_137_15 {ls : ab_L} {st : List Value} {w : ab_W} {v0 v1 v2 : Value} (h1 : ab_recv ab_mt 107 [v0, v1, v2] w.2 = true) (h8 : ab_w8 st = true) : ab_Run ab_mt 137 15 ls (v2 :: v1 :: v0 :: st) w = ab_aft 107 137 15 ls st (ab_Cl 107 [v0, v1, v2] w) := E_call3 rfl h1 h8
theorem e_137_18 {ls : ab_L} {st : List Value} {w : ab_W} {x : Int32} : ab_Run ab_mt 137 18 ls (.int x :: st) w = if x = 0 then ab_Run ab_mt 137 21 ls st w else ab_Run ab_mt 137 25 ls st w := E_if_ne rfl
theorem e_137_21 {ls : ab_L} {st : List Value} {w : ab_W} : ab_Run ab_mt 137 21 ls st w = ab_Run ab_mt 137 22 ls (.int (nI 1) :: st) w := E_push (n := 1) rfl
theorem e_137_22 {ls : ab_L} {st : List Value} {w : ab_W} : ab_Run ab_mt 137 22 ls st w = ab_Run ab_mt 137 37 ls st w := E_goto rfl
theorem e_137_25 {ls : ab_L} {st : List Value} {w : ab_W} (h : ab_isR (ls 0) = true) : ab_Run ab_mt 137 25 ls st w = ab_Run ab_mt 137 26 ls (ab_gv (ls 0) :: st) w := E_loadr (n := 1) rfl h
theorem e_137_26 {ls : ab_L} {st : List Value} {w : ab_W} {a : Nat} (h : ab_isF 7 9 (w.2 a) = true) : ab_Run ab_mt 137 26 ls (.ref a :: st) w = ab_Run ab_mt 137 29 ls (ab_fv 9 (w.2 a) :: st) w := E_get rfl h
theorem e_137_29 {ls : ab_L} {st : List Value} {w : ab_W} {x : Int32} : ab_Run ab_mt 137 29 ls (.int x :: st) w = if x = 0 then ab_Run ab_mt 137 36 ls st w else ab_Run ab_mt 137 32 ls st w := E_if_eq rfl
theorem e_137_32 {ls : ab_L} {st : List Value} {w : ab_W} : ab_Run ab_mt 137 32 ls st w = ab_Run ab_mt 137 33 ls (.int (nI 2) :: st) w := E_push (n := 1) rfl
theorem e_137_33 {ls : ab_L} {st : List Value} {w : ab_W} : ab_Run ab_mt 137 33 ls st w = ab_Run ab_mt 137 37 ls st w := E_goto rfl
theorem e_137_36 {ls : ab_L} {st : List Value} {w : ab_W} : ab_Run ab_mt 137 36 ls st w = ab_Run ab_mt 137 37 ls (.int (nI 0) :: st) w := E_push (n := 1) rfl
theorem e_137_37 {ls : ab_L} {st : List Value} {w : ab_W} {a : Nat} {x : Int32} (h : ab_isF 7 0 (w.2 a) = true) : ab_Run ab_mt 137 37 ls (.int x :: .ref a :: st) w = ab_Run ab_mt 137 40 ls st (w.1, ab_up w.2 a (ab_sf 0 (.int x) (w.2 a))) := E_put rfl h rfl
theorem e_137_40 {ls : ab_L} {st : List Value} {w : ab_W} (h : ab_isR (ls 0) = true) : ab_Run ab_mt 137 40 ls st w = ab_Run ab_mt 137 41 ls (ab_gv (ls 0) :: st) w := E_loadr (n := 1) rfl h
theorem e_137_41 {ls : ab_L} {st : List Value} {w : ab_W} {a : Nat} (h : ab_isF 7 0 (w.2 a) = true) : ab_Run ab_mt 137 41 ls (.ref a :: st) w = ab_Run ab_mt 137 44 ls (ab_fv 0 (w.2 a) :: st) w := E_get rfl h
theorem e_137_44 {ls : ab_L} {st : List Value} {w : ab_W} {x : Int32} : ab_Run ab_mt 137 44 ls (.int x :: st) w = if x ≤ 0 then ab_Run ab_mt 137 49 ls st w else ab_Run ab_mt 137 47 ls st w := E_if_le rfl
theorem e_137_47 {ls : ab_L} {st : List Value} {w : ab_W} : ab_Run ab_mt 137 47 ls st w = ab_Run ab_mt 137 48 ls (.int (nI 0) :: st) w := E_push (n := 1) rfl
theorem e_137_48 {ls : ab_L} {w : ab_W} {x : Int32} : ab_Run ab_mt 137 48 ls [.int x] w = some (.inl (some (.int x)), w) := E_reti rfl
theorem e_137_49 {ls : ab_L} {st : List Value} {w : ab_W} (h : ab_isR (ls 0) = true) : ab_Run ab_mt 137 49 ls st w = ab_Run ab_mt 137 50 ls (ab_gv (ls 0) :: st) w := E_loadr (n := 1) rfl h
theorem e_137_50 {ls : ab_L} {st : List Value} {w : ab_W} {v0 : Value} (h1 : ab_recv ab_mt 117 [v0] w.2 = true) (h8 : ab_w8 st = true) : ab_Run ab_mt 137 50 ls (v0 :: st) w = ab_aft 117 137 50 ls st (ab_Cl 117 [v0] w) := E_call1 rfl h1 h8
theorem e_137_53 {ls : ab_L} {st : List Value} {w : ab_W} (h : ab_isR (ls 0) = true) : ab_Run ab_mt 137 53 ls st w = ab_Run ab_mt 137 54 ls (ab_gv (ls 0) :: st) w := E_loadr (n := 1) rfl h
theorem e_137_54 {ls : ab_L} {st : List Value} {w : ab_W} {a : Nat} (h : ab_isF 7 1 (w.2 a) = true) : ab_Run ab_mt 137 54 ls (.ref a :: st) w = ab_Run ab_mt 137 57 ls (ab_fv 1 (w.2 a) :: st) w := E_get rfl h
theorem e_137_57 {ls : ab_L} {st : List Value} {w : ab_W} : ab_Run ab_mt 137 57 ls st w = ab_Run ab_mt 137 60 ls (.int (nI 191) :: st) w := E_push (n := 3) rfl
theorem e_137_60 {ls : ab_L} {st : List Value} {w : ab_W} {x : Nat} {y : Int32} : ab_Run ab_mt 137 60 ls (.int y :: .ref x :: st) w = ab_Run ab_mt 137 61 ls (.int y :: .ref x :: .int y :: .ref x :: st) w := E_dup2 rfl
theorem e_137_61 {ls : ab_L} {st : List Value} {w : ab_W} {a : Nat} {i : Int32} (h : ab_inI i (w.2 a) = true) : ab_Run ab_mt 137 61 ls (.int i :: .ref a :: st) w = ab_Run ab_mt 137 62 ls (.int (ab_aI i.toNatClampNeg (w.2 a)) :: st) w := E_iald rfl h
theorem e_137_62 {ls : ab_L} {st : List Value} {w : ab_W} : ab_Run ab_mt 137 62 ls st w = ab_Run ab_mt 137 63 ls (.int (nI 1) :: st) w := E_push (n := 1) rfl
theorem e_137_63 {ls : ab_L} {st : List Value} {w : ab_W} {x y : Int32} : ab_Run ab_mt 137 63 ls (.int y :: .int x :: st) w = ab_Run ab_mt 137 64 ls (.int (x - y) :: st) w := E_ib (f := fun x y => x - y) rfl
theorem e_137_64 {ls : ab_L} {st : List Value} {w : ab_W} {a : Nat} {i x : Int32} (h : ab_inW i (w.2 a) = true) : ab_Run ab_mt 137 64 ls (.int x :: .int i :: .ref a :: st) w = ab_Run ab_mt 137 65 ls st (w.1, ab_up w.2 a (ab_sI i.toNatClampNeg x (w.2 a))) := E_iast rfl h
theorem e_137_65 {ls : ab_L} {st : List Value} {w : ab_W} : ab_Run ab_mt 137 65 ls st w = ab_Run ab_mt 137 67 ls (.int (nI 120) :: st) w := E_push (n := 2) rfl
theorem e_137_67 {ls : ab_L} {st : List Value} {w : ab_W} : ab_Run ab_mt 137 67 ls st w = ab_Run ab_mt 137 68 ls (.int (nI 3) :: st) w := E_push (n := 1) rfl
theorem e_137_68 {ls : ab_L} {st : List Value} {w : ab_W} (h : ab_isI (ls 1) = true) : ab_Run ab_mt 137 68 ls st w = ab_Run ab_mt 137 69 ls (ab_gv (ls 1) :: st) w := E_loadi (n := 1) rfl h
theorem e_137_69 {ls : ab_L} {st : List Value} {w : ab_W} {x y : Int32} : ab_Run ab_mt 137 69 ls (.int y :: .int x :: st) w = ab_Run ab_mt 137 70 ls (.int (x * y) :: st) w := E_ib (f := fun x y => x * y) rfl
theorem e_137_70 {ls : ab_L} {st : List Value} {w : ab_W} {x y : Int32} : ab_Run ab_mt 137 70 ls (.int y :: .int x :: st) w = ab_Run ab_mt 137 71 ls (.int (x + y) :: st) w := E_ib (f := fun x y => x + y) rfl
theorem e_137_71 {ls : ab_L} {st : List Value} {w : ab_W} {x : Int32} : ab_Run ab_mt 137 71 ls (.int x :: st) w = ab_Run ab_mt 137 72 (ab_l1 ls 2 (.int x)) st w := E_stori (n := 1) rfl
theorem e_137_72 {ls : ab_L} {st : List Value} {w : ab_W} (h : ab_isI (ls 2) = true) : ab_Run ab_mt 137 72 ls st w = ab_Run ab_mt 137 73 ls (ab_gv (ls 2) :: st) w := E_loadi (n := 1) rfl h
theorem e_137_73 {ls : ab_L} {st : List Value} {w : ab_W} : ab_Run ab_mt 137 73 ls st w = ab_Run ab_mt 137 75 ls (.int (nI 120) :: st) w := E_push (n := 2) rfl
theorem e_137_75 {ls : ab_L} {st : List Value} {w : ab_W} : ab_Run ab_mt 137 75 ls st w = ab_Run ab_mt 137 76 ls (.int (nI 3) :: st) w := E_push (n := 1) rfl
theorem e_137_76 {ls : ab_L} {st : List Value} {w : ab_W} (h : ab_isR (ls 0) = true) : ab_Run ab_mt 137 76 ls st w = ab_Run ab_mt 137 77 ls (ab_gv (ls 0) :: st) w := E_loadr (n := 1) rfl h
theorem e_137_77 {ls : ab_L} {st : List Value} {w : ab_W} {a : Nat} (h : ab_isF 7 1 (w.2 a) = true) : ab_Run ab_mt 137 77 ls (.ref a :: st) w = ab_Run ab_mt 137 80 ls (ab_fv 1 (w.2 a) :: st) w := E_get rfl h
theorem e_137_80 {ls : ab_L} {st : List Value} {w : ab_W} : ab_Run ab_mt 137 80 ls st w = ab_Run ab_mt 137 83 ls (.int (nI 191) :: st) w := E_push (n := 3) rfl
theorem e_137_83 {ls : ab_L} {st : List Value} {w : ab_W} {a : Nat} {i : Int32} (h : ab_inI i (w.2 a) = true) : ab_Run ab_mt 137 83 ls (.int i :: .ref a :: st) w = ab_Run ab_mt 137 84 ls (.int (ab_aI i.toNatClampNeg (w.2 a)) :: st) w := E_iald rfl h
theorem e_137_84 {ls : ab_L} {st : List Value} {w : ab_W} {x y : Int32} : ab_Run ab_mt 137 84 ls (.int y :: .int x :: st) w = ab_Run ab_mt 137 85 ls (.int (x * y) :: st) w := E_ib (f := fun x y => x * y) rfl
theorem e_137_85 {ls : ab_L} {st : List Value} {w : ab_W} {x y : Int32} : ab_Run ab_mt 137 85 ls (.int y :: .int x :: st) w = ab_Run ab_mt 137 86 ls (.int (x + y) :: st) w := E_ib (f := fun x y => x + y) rfl
theorem e_137_86 {ls : ab_L} {st : List Value} {w : ab_W} {x y : Int32} : ab_Run ab_mt 137 86 ls (.int y :: .int x :: st) w = if y ≤ x then ab_Run ab_mt 137 109 ls st w else ab_Run ab_mt 137 89 ls st w := E_ic_ge rfl
theorem e_137_89 {ls : ab_L} {st : List Value} {w : ab_W} (h : ab_isR (ls 0) = true) : ab_Run ab_mt 137 89 ls st w = ab_Run ab_mt 137 90 ls (ab_gv (ls 0) :: st) w := E_loadr (n := 1) rfl h
theorem e_137_90 {ls : ab_L} {st : List Value} {w : ab_W} {a : Nat} (h : ab_isF 7 1 (w.2 a) = true) : ab_Run ab_mt 137 90 ls (.ref a :: st) w = ab_Run ab_mt 137 93 ls (ab_fv 1 (w.2 a) :: st) w := E_get rfl h
theorem e_137_93 {ls : ab_L} {st : List Value} {w : ab_W} (h : ab_isI (ls 2) = true) : ab_Run ab_mt 137 93 ls st w = ab_Run ab_mt 137 94 ls (ab_gv (ls 2) :: st) w := E_loadi (n := 1) rfl h
theorem e_137_94 {ls : ab_L} {st : List Value} {w : ab_W} (h : ab_isR (ls 0) = true) : ab_Run ab_mt 137 94 ls st w = ab_Run ab_mt 137 95 ls (ab_gv (ls 0) :: st) w := E_loadr (n := 1) rfl h
theorem e_137_95 {ls : ab_L} {st : List Value} {w : ab_W} {a : Nat} (h : ab_isF 7 1 (w.2 a) = true) : ab_Run ab_mt 137 95 ls (.ref a :: st) w = ab_Run ab_mt 137 98 ls (ab_fv 1 (w.2 a) :: st) w := E_get rfl h
theorem e_137_98 {ls : ab_L} {st : List Value} {w : ab_W} (h : ab_isI (ls 2) = true) : ab_Run ab_mt 137 98 ls st w = ab_Run ab_mt 137 99 ls (ab_gv (ls 2) :: st) w := E_loadi (n := 1) rfl h
theorem e_137_99 {ls : ab_L} {st : List Value} {w : ab_W} : ab_Run ab_mt 137 99 ls st w = ab_Run ab_mt 137 100 ls (.int (nI 3) :: st) w := E_push (n := 1) rfl
theorem e_137_100 {ls : ab_L} {st : List Value} {w : ab_W} {x y : Int32} : ab_Run ab_mt 137 100 ls (.int y :: .int x :: st) w = ab_Run ab_mt 137 101 ls (.int (x + y) :: st) w := E_ib (f := fun x y => x + y) rfl
theorem e_137_101 {ls : ab_L} {st : List Value} {w : ab_W} {a : Nat} {i : Int32} (h : ab_inI i (w.2 a) = true) : ab_Run ab_mt 137 101 ls (.int i :: .ref a :: st) w = ab_Run ab_mt 137 102 ls (.int (ab_aI i.toNatClampNeg (w.2 a)) :: st) w := E_iald rfl h
theorem e_137_102 {ls : ab_L} {st : List Value} {w : ab_W} {a : Nat} {i x : Int32} (h : ab_inW i (w.2 a) = true) : ab_Run ab_mt 137 102 ls (.int x :: .int i :: .ref a :: st) w = ab_Run ab_mt 137 103 ls st (w.1, ab_up w.2 a (ab_sI i.toNatClampNeg x (w.2 a))) := E_iast rfl h
theorem e_137_103 {ls : ab_L} {st : List Value} {w : ab_W} (h : ab_isI (ls 2) = true) : ab_Run ab_mt 137 103 ls st w = ab_Run ab_mt 137 106 (ab_l1 ls 2 (.int (ab_gi (ls 2) + (nI 1)))) st w := E_iinc rfl h
theorem e_137_106 {ls : ab_L} {st : List Value} {w : ab_W} : ab_Run ab_mt 137 106 ls st w = ab_Run ab_mt 137 72 ls st w := E_goto rfl
theorem e_137_109 {ls : ab_L} {st : List Value} {w : ab_W} (h : ab_isR (ls 0) = true) : ab_Run ab_mt 137 109 ls st w = ab_Run ab_mt 137 110 ls (ab_gv (ls 0) :: st) w := E_loadr (n := 1) rfl h
theorem e_137_110 {ls : ab_L} {st : List Value} {w : ab_W} {a : Nat} (h : ab_isF 7 1 (w.2 a) = true) : ab_Run ab_mt 137 110 ls (.ref a :: st) w = ab_Run ab_mt 137 113 ls (ab_fv 1 (w.2 a) :: st) w := E_get rfl h
theorem e_137_113 {ls : ab_L} {st : List Value} {w : ab_W} : ab_Run ab_mt 137 113 ls st w = ab_Run ab_mt 137 116 ls (.int (nI 191) :: st) w := E_push (n := 3) rfl
theorem e_137_116 {ls : ab_L} {st : List Value} {w : ab_W} {a : Nat} {i : Int32} (h : ab_inI i (w.2 a) = true) : ab_Run ab_mt 137 116 ls (.int i :: .ref a :: st) w = ab_Run ab_mt 137 117 ls (.int (ab_aI i.toNatClampNeg (w.2 a)) :: st) w := E_iald rfl h
theorem e_137_117 {ls : ab_L} {w : ab_W} {x : Int32} : ab_Run ab_mt 137 117 ls [.int x] w = some (.inl (some (.int x)), w) := E_reti rfl
theorem rv_137 {σ : ab_S} {t : Nat} {x0 : Int32} : ab_recv ab_mt 137 [.ref t, .int x0] σ = ab_isO 7 (σ t) := rfl
theorem e_138_0 {ls : ab_L} {st : List Value} {w : ab_W} (h : ab_isI (ls 2) = true) : ab_Run ab_mt 138 0 ls st w = ab_Run ab_mt 138 1 ls (ab_gv (ls 2) :: st) w := E_loadi (n := 1) rfl h
theorem e_138_1 {ls : ab_L} {st : List Value} {w : ab_W} {x : Int32} : ab_Run ab_mt 138 1 ls (.int x :: st) w = ab_Run ab_mt 138 2 ls (.long x.toInt64 :: st) w := E_i2l rfl
theorem e_138_2 {ls : ab_L} {st : List Value} {w : ab_W} : ab_Run ab_mt 138 2 ls st w = ab_Run ab_mt 138 3 ls (.long (lN 0) :: st) w := E_push (n := 1) rfl
theorem e_138_3 {ls : ab_L} {st : List Value} {w : ab_W} : ab_Run ab_mt 138 3 ls st w = ab_Run ab_mt 138 6 ls (.long (lN 479) :: st) w := E_push (n := 3) rfl
theorem e_138_6 {ls : ab_L} {st : List Value} {w : ab_W} {v0 v1 v2 : Value} (h1 : ab_recv ab_mt 107 [v0, v1, v2] w.2 = true) (h8 : ab_w8 st = true) : ab_Run ab_mt 138 6 ls (v2 :: v1 :: v0 :: st) w = ab_aft 107 138 6 ls st (ab_Cl 107 [v0, v1, v2] w) := E_call3 rfl h1 h8
theorem e_138_9 {ls : ab_L} {st : List Value} {w : ab_W} {x : Int32} : ab_Run ab_mt 138 9 ls (.int x :: st) w = if x = 0 then ab_Run ab_mt 138 28 ls st w else ab_Run ab_mt 138 12 ls st w := E_if_eq rfl
theorem e_138_12 {ls : ab_L} {st : List Value} {w : ab_W} (h : ab_isI (ls 3) = true) : ab_Run ab_mt 138 12 ls st w = ab_Run ab_mt 138 13 ls (ab_gv (ls 3) :: st) w := E_loadi (n := 1) rfl h
theorem e_138_13 {ls : ab_L} {st : List Value} {w : ab_W} {x : Int32} : ab_Run ab_mt 138 13 ls (.int x :: st) w = ab_Run ab_mt 138 14 ls (.long x.toInt64 :: st) w := E_i2l rfl
theorem e_138_14 {ls : ab_L} {st : List Value} {w : ab_W} : ab_Run ab_mt 138 14 ls st w = ab_Run ab_mt 138 15 ls (.long (lN 0) :: st) w := E_push (n := 1) rfl
theorem e_138_15 {ls : ab_L} {st : List Value} {w : ab_W} : ab_Run ab_mt 138 15 ls st w = ab_Run ab_mt 138 18 ls (.long (lN 5000) :: st) w := E_push (n := 3) rfl
theorem e_138_18 {ls : ab_L} {st : List Value} {w : ab_W} {v0 v1 v2 : Value} (h1 : ab_recv ab_mt 107 [v0, v1, v2] w.2 = true) (h8 : ab_w8 st = true) : ab_Run ab_mt 138 18 ls (v2 :: v1 :: v0 :: st) w = ab_aft 107 138 18 ls st (ab_Cl 107 [v0, v1, v2] w) := E_call3 rfl h1 h8
theorem e_138_21 {ls : ab_L} {st : List Value} {w : ab_W} {x : Int32} : ab_Run ab_mt 138 21 ls (.int x :: st) w = if x = 0 then ab_Run ab_mt 138 28 ls st w else ab_Run ab_mt 138 24 ls st w := E_if_eq rfl
theorem e_138_24 {ls : ab_L} {st : List Value} {w : ab_W} : ab_Run ab_mt 138 24 ls st w = ab_Run ab_mt 138 25 ls (.int (nI 1) :: st) w := E_push (n := 1) rfl
theorem e_138_25 {ls : ab_L} {st : List Value} {w : ab_W} : ab_Run ab_mt 138 25 ls st w = ab_Run ab_mt 138 29 ls st w := E_goto rfl
theorem e_138_28 {ls : ab_L} {st : List Value} {w : ab_W} : ab_Run ab_mt 138 28 ls st w = ab_Run ab_mt 138 29 ls (.int (nI 0) :: st) w := E_push (n := 1) rfl
theorem e_138_29 {ls : ab_L} {st : List Value} {w : ab_W} {x : Int32} : ab_Run ab_mt 138 29 ls (.int x :: st) w = ab_Run ab_mt 138 31 (ab_l1 ls 4 (.int x)) st w := E_stori (n := 2) rfl
theorem e_138_31 {ls : ab_L} {st : List Value} {w : ab_W} (h : ab_isR (ls 0) = true) : ab_Run ab_mt 138 31 ls st w = ab_Run ab_mt 138 32 ls (ab_gv (ls 0) :: st) w := E_loadr (n := 1) rfl h
theorem e_138_32 {ls : ab_L} {st : List Value} {w : ab_W} (h : ab_isR (ls 0) = true) : ab_Run ab_mt 138 32 ls st w = ab_Run ab_mt 138 33 ls (ab_gv (ls 0) :: st) w := E_loadr (n := 1) rfl h
theorem e_138_33 {ls : ab_L} {st : List Value} {w : ab_W} (h : ab_isI (ls 1) = true) : ab_Run ab_mt 138 33 ls st w = ab_Run ab_mt 138 34 ls (ab_gv (ls 1) :: st) w := E_loadi (n := 1) rfl h
theorem e_138_34 {ls : ab_L} {st : List Value} {w : ab_W} {v0 v1 : Value} (h1 : ab_recv ab_mt 115 [v0, v1] w.2 = true) (h8 : ab_w8 st = true) : ab_Run ab_mt 138 34 ls (v1 :: v0 :: st) w = ab_aft 115 138 34 ls st (ab_Cl 115 [v0, v1] w) := E_call2 rfl h1 h8
theorem e_138_37 {ls : ab_L} {st : List Value} {w : ab_W} {x : Int32} : ab_Run ab_mt 138 37 ls (.int x :: st) w = if x = 0 then ab_Run ab_mt 138 40 ls st w else ab_Run ab_mt 138 44 ls st w := E_if_ne rfl
theorem e_138_40 {ls : ab_L} {st : List Value} {w : ab_W} : ab_Run ab_mt 138 40 ls st w = ab_Run ab_mt 138 41 ls (.int (nI 1) :: st) w := E_push (n := 1) rfl
theorem e_138_41 {ls : ab_L} {st : List Value} {w : ab_W} : ab_Run ab_mt 138 41 ls st w = ab_Run ab_mt 138 78 ls st w := E_goto rfl
theorem e_138_44 {ls : ab_L} {st : List Value} {w : ab_W} (h : ab_isI (ls 4) = true) : ab_Run ab_mt 138 44 ls st w = ab_Run ab_mt 138 46 ls (ab_gv (ls 4) :: st) w := E_loadi (n := 2) rfl h
theorem e_138_46 {ls : ab_L} {st : List Value} {w : ab_W} {x : Int32} : ab_Run ab_mt 138 46 ls (.int x :: st) w = if x = 0 then ab_Run ab_mt 138 49 ls st w else ab_Run ab_mt 138 53 ls st w := E_if_ne rfl
theorem e_138_49 {ls : ab_L} {st : List Value} {w : ab_W} : ab_Run ab_mt 138 49 ls st w = ab_Run ab_mt 138 50 ls (.int (nI 2) :: st) w := E_push (n := 1) rfl
theorem e_138_50 {ls : ab_L} {st : List Value} {w : ab_W} : ab_Run ab_mt 138 50 ls st w = ab_Run ab_mt 138 78 ls st w := E_goto rfl
theorem e_138_53 {ls : ab_L} {st : List Value} {w : ab_W} (h : ab_isR (ls 0) = true) : ab_Run ab_mt 138 53 ls st w = ab_Run ab_mt 138 54 ls (ab_gv (ls 0) :: st) w := E_loadr (n := 1) rfl h
theorem e_138_54 {ls : ab_L} {st : List Value} {w : ab_W} {a : Nat} (h : ab_isF 7 9 (w.2 a) = true) : ab_Run ab_mt 138 54 ls (.ref a :: st) w = ab_Run ab_mt 138 57 ls (ab_fv 9 (w.2 a) :: st) w := E_get rfl h
theorem e_138_57 {ls : ab_L} {st : List Value} {w : ab_W} {x : Int32} : ab_Run ab_mt 138 57 ls (.int x :: st) w = if x = 0 then ab_Run ab_mt 138 60 ls st w else ab_Run ab_mt 138 73 ls st w := E_if_ne rfl
theorem e_138_60 {ls : ab_L} {st : List Value} {w : ab_W} (h : ab_isR (ls 0) = true) : ab_Run ab_mt 138 60 ls st w = ab_Run ab_mt 138 61 ls (ab_gv (ls 0) :: st) w := E_loadr (n := 1) rfl h
theorem e_138_61 {ls : ab_L} {st : List Value} {w : ab_W} {a : Nat} (h : ab_isF 7 1 (w.2 a) = true) : ab_Run ab_mt 138 61 ls (.ref a :: st) w = ab_Run ab_mt 138 64 ls (ab_fv 1 (w.2 a) :: st) w := E_get rfl h
theorem e_138_64 {ls : ab_L} {st : List Value} {w : ab_W} : ab_Run ab_mt 138 64 ls st w = ab_Run ab_mt 138 67 ls (.int (nI 192) :: st) w := E_push (n := 3) rfl
theorem e_138_67 {ls : ab_L} {st : List Value} {w : ab_W} {a : Nat} {i : Int32} (h : ab_inI i (w.2 a) = true) : ab_Run ab_mt 138 67 ls (.int i :: .ref a :: st) w = ab_Run ab_mt 138 68 ls (.int (ab_aI i.toNatClampNeg (w.2 a)) :: st) w := E_iald rfl h
theorem e_138_68 {ls : ab_L} {st : List Value} {w : ab_W} : ab_Run ab_mt 138 68 ls st w = ab_Run ab_mt 138 70 ls (.int (nI 12) :: st) w := E_push (n := 2) rfl
theorem e_138_70 {ls : ab_L} {st : List Value} {w : ab_W} {x y : Int32} : ab_Run ab_mt 138 70 ls (.int y :: .int x :: st) w = if x = y then ab_Run ab_mt 138 73 ls st w else ab_Run ab_mt 138 77 ls st w := E_ic_ne rfl
theorem e_138_73 {ls : ab_L} {st : List Value} {w : ab_W} : ab_Run ab_mt 138 73 ls st w = ab_Run ab_mt 138 74 ls (.int (nI 3) :: st) w := E_push (n := 1) rfl
theorem e_138_74 {ls : ab_L} {st : List Value} {w : ab_W} : ab_Run ab_mt 138 74 ls st w = ab_Run ab_mt 138 78 ls st w := E_goto rfl
theorem e_138_77 {ls : ab_L} {st : List Value} {w : ab_W} : ab_Run ab_mt 138 77 ls st w = ab_Run ab_mt 138 78 ls (.int (nI 0) :: st) w := E_push (n := 1) rfl
theorem e_138_78 {ls : ab_L} {st : List Value} {w : ab_W} {a : Nat} {x : Int32} (h : ab_isF 7 0 (w.2 a) = true) : ab_Run ab_mt 138 78 ls (.int x :: .ref a :: st) w = ab_Run ab_mt 138 81 ls st (w.1, ab_up w.2 a (ab_sf 0 (.int x) (w.2 a))) := E_put rfl h rfl
theorem e_138_81 {ls : ab_L} {st : List Value} {w : ab_W} (h : ab_isR (ls 0) = true) : ab_Run ab_mt 138 81 ls st w = ab_Run ab_mt 138 82 ls (ab_gv (ls 0) :: st) w := E_loadr (n := 1) rfl h
theorem e_138_82 {ls : ab_L} {st : List Value} {w : ab_W} {a : Nat} (h : ab_isF 7 0 (w.2 a) = true) : ab_Run ab_mt 138 82 ls (.ref a :: st) w = ab_Run ab_mt 138 85 ls (ab_fv 0 (w.2 a) :: st) w := E_get rfl h
theorem e_138_85 {ls : ab_L} {st : List Value} {w : ab_W} {x : Int32} : ab_Run ab_mt 138 85 ls (.int x :: st) w = if x ≤ 0 then ab_Run ab_mt 138 90 ls st w else ab_Run ab_mt 138 88 ls st w := E_if_le rfl
theorem e_138_88 {ls : ab_L} {st : List Value} {w : ab_W} : ab_Run ab_mt 138 88 ls st w = ab_Run ab_mt 138 89 ls (.int (nI 0) :: st) w := E_push (n := 1) rfl
theorem e_138_89 {ls : ab_L} {w : ab_W} {x : Int32} : ab_Run ab_mt 138 89 ls [.int x] w = some (.inl (some (.int x)), w) := E_reti rfl
theorem e_138_90 {ls : ab_L} {st : List Value} {w : ab_W} (h : ab_isR (ls 0) = true) : ab_Run ab_mt 138 90 ls st w = ab_Run ab_mt 138 91 ls (ab_gv (ls 0) :: st) w := E_loadr (n := 1) rfl h
theorem e_138_91 {ls : ab_L} {st : List Value} {w : ab_W} {v0 : Value} (h1 : ab_recv ab_mt 117 [v0] w.2 = true) (h8 : ab_w8 st = true) : ab_Run ab_mt 138 91 ls (v0 :: st) w = ab_aft 117 138 91 ls st (ab_Cl 117 [v0] w) := E_call1 rfl h1 h8
theorem e_138_94 {ls : ab_L} {st : List Value} {w : ab_W} : ab_Run ab_mt 138 94 ls st w = ab_Run ab_mt 138 97 ls (.int (nI 153) :: st) w := E_push (n := 3) rfl
theorem e_138_97 {ls : ab_L} {st : List Value} {w : ab_W} : ab_Run ab_mt 138 97 ls st w = ab_Run ab_mt 138 98 ls (.int (nI 3) :: st) w := E_push (n := 1) rfl
theorem e_138_98 {ls : ab_L} {st : List Value} {w : ab_W} (h : ab_isR (ls 0) = true) : ab_Run ab_mt 138 98 ls st w = ab_Run ab_mt 138 99 ls (ab_gv (ls 0) :: st) w := E_loadr (n := 1) rfl h
theorem e_138_99 {ls : ab_L} {st : List Value} {w : ab_W} {a : Nat} (h : ab_isF 7 1 (w.2 a) = true) : ab_Run ab_mt 138 99 ls (.ref a :: st) w = ab_Run ab_mt 138 102 ls (ab_fv 1 (w.2 a) :: st) w := E_get rfl h
theorem e_138_102 {ls : ab_L} {st : List Value} {w : ab_W} : ab_Run ab_mt 138 102 ls st w = ab_Run ab_mt 138 105 ls (.int (nI 192) :: st) w := E_push (n := 3) rfl
theorem e_138_105 {ls : ab_L} {st : List Value} {w : ab_W} {a : Nat} {i : Int32} (h : ab_inI i (w.2 a) = true) : ab_Run ab_mt 138 105 ls (.int i :: .ref a :: st) w = ab_Run ab_mt 138 106 ls (.int (ab_aI i.toNatClampNeg (w.2 a)) :: st) w := E_iald rfl h
theorem e_138_106 {ls : ab_L} {st : List Value} {w : ab_W} {x y : Int32} : ab_Run ab_mt 138 106 ls (.int y :: .int x :: st) w = ab_Run ab_mt 138 107 ls (.int (x * y) :: st) w := E_ib (f := fun x y => x * y) rfl
theorem e_138_107 {ls : ab_L} {st : List Value} {w : ab_W} {x y : Int32} : ab_Run ab_mt 138 107 ls (.int y :: .int x :: st) w = ab_Run ab_mt 138 108 ls (.int (x + y) :: st) w := E_ib (f := fun x y => x + y) rfl
theorem e_138_108 {ls : ab_L} {st : List Value} {w : ab_W} {x : Int32} : ab_Run ab_mt 138 108 ls (.int x :: st) w = ab_Run ab_mt 138 110 (ab_l1 ls 5 (.int x)) st w := E_stori (n := 2) rfl
theorem e_138_110 {ls : ab_L} {st : List Value} {w : ab_W} (h : ab_isR (ls 0) = true) : ab_Run ab_mt 138 110 ls st w = ab_Run ab_mt 138 111 ls (ab_gv (ls 0) :: st) w := E_loadr (n := 1) rfl h
theorem e_138_111 {ls : ab_L} {st : List Value} {w : ab_W} {a : Nat} (h : ab_isF 7 1 (w.2 a) = true) : ab_Run ab_mt 138 111 ls (.ref a :: st) w = ab_Run ab_mt 138 114 ls (ab_fv 1 (w.2 a) :: st) w := E_get rfl h
theorem e_138_114 {ls : ab_L} {st : List Value} {w : ab_W} (h : ab_isI (ls 5) = true) : ab_Run ab_mt 138 114 ls st w = ab_Run ab_mt 138 116 ls (ab_gv (ls 5) :: st) w := E_loadi (n := 2) rfl h
theorem e_138_116 {ls : ab_L} {st : List Value} {w : ab_W} (h : ab_isI (ls 1) = true) : ab_Run ab_mt 138 116 ls st w = ab_Run ab_mt 138 117 ls (ab_gv (ls 1) :: st) w := E_loadi (n := 1) rfl h
theorem e_138_117 {ls : ab_L} {st : List Value} {w : ab_W} {a : Nat} {i x : Int32} (h : ab_inW i (w.2 a) = true) : ab_Run ab_mt 138 117 ls (.int x :: .int i :: .ref a :: st) w = ab_Run ab_mt 138 118 ls st (w.1, ab_up w.2 a (ab_sI i.toNatClampNeg x (w.2 a))) := E_iast rfl h
theorem e_138_118 {ls : ab_L} {st : List Value} {w : ab_W} (h : ab_isR (ls 0) = true) : ab_Run ab_mt 138 118 ls st w = ab_Run ab_mt 138 119 ls (ab_gv (ls 0) :: st) w := E_loadr (n := 1) rfl h
theorem e_138_119 {ls : ab_L} {st : List Value} {w : ab_W} {a : Nat} (h : ab_isF 7 1 (w.2 a) = true) : ab_Run ab_mt 138 119 ls (.ref a :: st) w = ab_Run ab_mt 138 122 ls (ab_fv 1 (w.2 a) :: st) w := E_get rfl h
theorem e_138_122 {ls : ab_L} {st : List Value} {w : ab_W} (h : ab_isI (ls 5) = true) : ab_Run ab_mt 138 122 ls st w = ab_Run ab_mt 138 124 ls (ab_gv (ls 5) :: st) w := E_loadi (n := 2) rfl h
theorem e_138_124 {ls : ab_L} {st : List Value} {w : ab_W} : ab_Run ab_mt 138 124 ls st w = ab_Run ab_mt 138 125 ls (.int (nI 1) :: st) w := E_push (n := 1) rfl
theorem e_138_125 {ls : ab_L} {st : List Value} {w : ab_W} {x y : Int32} : ab_Run ab_mt 138 125 ls (.int y :: .int x :: st) w = ab_Run ab_mt 138 126 ls (.int (x + y) :: st) w := E_ib (f := fun x y => x + y) rfl
theorem e_138_126 {ls : ab_L} {st : List Value} {w : ab_W} (h : ab_isI (ls 2) = true) : ab_Run ab_mt 138 126 ls st w = ab_Run ab_mt 138 127 ls (ab_gv (ls 2) :: st) w := E_loadi (n := 1) rfl h
theorem e_138_127 {ls : ab_L} {st : List Value} {w : ab_W} {a : Nat} {i x : Int32} (h : ab_inW i (w.2 a) = true) : ab_Run ab_mt 138 127 ls (.int x :: .int i :: .ref a :: st) w = ab_Run ab_mt 138 128 ls st (w.1, ab_up w.2 a (ab_sI i.toNatClampNeg x (w.2 a))) := E_iast rfl h
theorem e_138_128 {ls : ab_L} {st : List Value} {w : ab_W} (h : ab_isR (ls 0) = true) : ab_Run ab_mt 138 128 ls st w = ab_Run ab_mt 138 129 ls (ab_gv (ls 0) :: st) w := E_loadr (n := 1) rfl h
theorem e_138_129 {ls : ab_L} {st : List Value} {w : ab_W} {a : Nat} (h : ab_isF 7 1 (w.2 a) = true) : ab_Run ab_mt 138 129 ls (.ref a :: st) w = ab_Run ab_mt 138 132 ls (ab_fv 1 (w.2 a) :: st) w := E_get rfl h
theorem e_138_132 {ls : ab_L} {st : List Value} {w : ab_W} (h : ab_isI (ls 5) = true) : ab_Run ab_mt 138 132 ls st w = ab_Run ab_mt 138 134 ls (ab_gv (ls 5) :: st) w := E_loadi (n := 2) rfl h
theorem e_138_134 {ls : ab_L} {st : List Value} {w : ab_W} : ab_Run ab_mt 138 134 ls st w = ab_Run ab_mt 138 135 ls (.int (nI 2) :: st) w := E_push (n := 1) rfl
theorem e_138_135 {ls : ab_L} {st : List Value} {w : ab_W} {x y : Int32} : ab_Run ab_mt 138 135 ls (.int y :: .int x :: st) w = ab_Run ab_mt 138 136 ls (.int (x + y) :: st) w := E_ib (f := fun x y => x + y) rfl
theorem e_138_136 {ls : ab_L} {st : List Value} {w : ab_W} (h : ab_isI (ls 3) = true) : ab_Run ab_mt 138 136 ls st w = ab_Run ab_mt 138 137 ls (ab_gv (ls 3) :: st) w := E_loadi (n := 1) rfl h
theorem e_138_137 {ls : ab_L} {st : List Value} {w : ab_W} {a : Nat} {i x : Int32} (h : ab_inW i (w.2 a) = true) : ab_Run ab_mt 138 137 ls (.int x :: .int i :: .ref a :: st) w = ab_Run ab_mt 138 138 ls st (w.1, ab_up w.2 a (ab_sI i.toNatClampNeg x (w.2 a))) := E_iast rfl h
theorem e_138_138 {ls : ab_L} {st : List Value} {w : ab_W} (h : ab_isR (ls 0) = true) : ab_Run ab_mt 138 138 ls st w = ab_Run ab_mt 138 139 ls (ab_gv (ls 0) :: st) w := E_loadr (n := 1) rfl h
theorem e_138_139 {ls : ab_L} {st : List Value} {w : ab_W} {a : Nat} (h : ab_isF 7 1 (w.2 a) = true) : ab_Run ab_mt 138 139 ls (.ref a :: st) w = ab_Run ab_mt 138 142 ls (ab_fv 1 (w.2 a) :: st) w := E_get rfl h
theorem e_138_142 {ls : ab_L} {st : List Value} {w : ab_W} : ab_Run ab_mt 138 142 ls st w = ab_Run ab_mt 138 145 ls (.int (nI 192) :: st) w := E_push (n := 3) rfl
theorem e_138_145 {ls : ab_L} {st : List Value} {w : ab_W} {x : Nat} {y : Int32} : ab_Run ab_mt 138 145 ls (.int y :: .ref x :: st) w = ab_Run ab_mt 138 146 ls (.int y :: .ref x :: .int y :: .ref x :: st) w := E_dup2 rfl
theorem e_138_146 {ls : ab_L} {st : List Value} {w : ab_W} {a : Nat} {i : Int32} (h : ab_inI i (w.2 a) = true) : ab_Run ab_mt 138 146 ls (.int i :: .ref a :: st) w = ab_Run ab_mt 138 147 ls (.int (ab_aI i.toNatClampNeg (w.2 a)) :: st) w := E_iald rfl h
theorem e_138_147 {ls : ab_L} {st : List Value} {w : ab_W} : ab_Run ab_mt 138 147 ls st w = ab_Run ab_mt 138 148 ls (.int (nI 1) :: st) w := E_push (n := 1) rfl
theorem e_138_148 {ls : ab_L} {st : List Value} {w : ab_W} {x y : Int32} : ab_Run ab_mt 138 148 ls (.int y :: .int x :: st) w = ab_Run ab_mt 138 149 ls (.int (x + y) :: st) w := E_ib (f := fun x y => x + y) rfl
theorem e_138_149 {ls : ab_L} {st : List Value} {w : ab_W} {a : Nat} {i x : Int32} (h : ab_inW i (w.2 a) = true) : ab_Run ab_mt 138 149 ls (.int x :: .int i :: .ref a :: st) w = ab_Run ab_mt 138 150 ls st (w.1, ab_up w.2 a (ab_sI i.toNatClampNeg x (w.2 a))) := E_iast rfl h
theorem e_138_150 {ls : ab_L} {st : List Value} {w : ab_W} (h : ab_isR (ls 0) = true) : ab_Run ab_mt 138 150 ls st w = ab_Run ab_mt 138 151 ls (ab_gv (ls 0) :: st) w := E_loadr (n := 1) rfl h
theorem e_138_151 {ls : ab_L} {st : List Value} {w : ab_W} {a : Nat} (h : ab_isF 7 1 (w.2 a) = true) : ab_Run ab_mt 138 151 ls (.ref a :: st) w = ab_Run ab_mt 138 154 ls (ab_fv 1 (w.2 a) :: st) w := E_get rfl h
theorem e_138_154 {ls : ab_L} {st : List Value} {w : ab_W} : ab_Run ab_mt 138 154 ls st w = ab_Run ab_mt 138 157 ls (.int (nI 192) :: st) w := E_push (n := 3) rfl
theorem e_138_157 {ls : ab_L} {st : List Value} {w : ab_W} {a : Nat} {i : Int32} (h : ab_inI i (w.2 a) = true) : ab_Run ab_mt 138 157 ls (.int i :: .ref a :: st) w = ab_Run ab_mt 138 158 ls (.int (ab_aI i.toNatClampNeg (w.2 a)) :: st) w := E_iald rfl h
theorem e_138_158 {ls : ab_L} {st : List Value} {w : ab_W} : ab_Run ab_mt 138 158 ls st w = ab_Run ab_mt 138 159 ls (.int (nI 1) :: st) w := E_push (n := 1) rfl
theorem e_138_159 {ls : ab_L} {st : List Value} {w : ab_W} {x y : Int32} : ab_Run ab_mt 138 159 ls (.int y :: .int x :: st) w = ab_Run ab_mt 138 160 ls (.int (x - y) :: st) w := E_ib (f := fun x y => x - y) rfl
theorem e_138_160 {ls : ab_L} {w : ab_W} {x : Int32} : ab_Run ab_mt 138 160 ls [.int x] w = some (.inl (some (.int x)), w) := E_reti rfl
theorem rv_138 {σ : ab_S} {t : Nat} {x0 : Int32} {x1 : Int32} {x2 : Int32} : ab_recv ab_mt 138 [.ref t, .int x0, .int x1, .int x2] σ = ab_isO 7 (σ t) := rfl
theorem e_139_0 {ls : ab_L} {st : List Value} {w : ab_W} (h : ab_isI (ls 1) = true) : ab_Run ab_mt 139 0 ls st w = ab_Run ab_mt 139 1 ls (ab_gv (ls 1) :: st) w := E_loadi (n := 1) rfl h
theorem e_139_1 {ls : ab_L} {st : List Value} {w : ab_W} {x : Int32} : ab_Run ab_mt 139 1 ls (.int x :: st) w = ab_Run ab_mt 139 2 ls (.long x.toInt64 :: st) w := E_i2l rfl
theorem e_139_2 {ls : ab_L} {st : List Value} {w : ab_W} : ab_Run ab_mt 139 2 ls st w = ab_Run ab_mt 139 3 ls (.long (lN 0) :: st) w := E_push (n := 1) rfl
theorem e_139_3 {ls : ab_L} {st : List Value} {w : ab_W} (h : ab_isR (ls 0) = true) : ab_Run ab_mt 139 3 ls st w = ab_Run ab_mt 139 4 ls (ab_gv (ls 0) :: st) w := E_loadr (n := 1) rfl h
theorem e_139_4 {ls : ab_L} {st : List Value} {w : ab_W} {a : Nat} (h : ab_isF 7 1 (w.2 a) = true) : ab_Run ab_mt 139 4 ls (.ref a :: st) w = ab_Run ab_mt 139 7 ls (ab_fv 1 (w.2 a) :: st) w := E_get rfl h
theorem e_139_7 {ls : ab_L} {st : List Value} {w : ab_W} : ab_Run ab_mt 139 7 ls st w = ab_Run ab_mt 139 10 ls (.int (nI 192) :: st) w := E_push (n := 3) rfl
theorem e_139_10 {ls : ab_L} {st : List Value} {w : ab_W} {a : Nat} {i : Int32} (h : ab_inI i (w.2 a) = true) : ab_Run ab_mt 139 10 ls (.int i :: .ref a :: st) w = ab_Run ab_mt 139 11 ls (.int (ab_aI i.toNatClampNeg (w.2 a)) :: st) w := E_iald rfl h
theorem e_139_11 {ls : ab_L} {st : List Value} {w : ab_W} : ab_Run ab_mt 139 11 ls st w = ab_Run ab_mt 139 12 ls (.int (nI 1) :: st) w := E_push (n := 1) rfl
theorem e_139_12 {ls : ab_L} {st : List Value} {w : ab_W} {x y : Int32} : ab_Run ab_mt 139 12 ls (.int y :: .int x :: st) w = ab_Run ab_mt 139 13 ls (.int (x - y) :: st) w := E_ib (f := fun x y => x - y) rfl
theorem e_139_13 {ls : ab_L} {st : List Value} {w : ab_W} {x : Int32} : ab_Run ab_mt 139 13 ls (.int x :: st) w = ab_Run ab_mt 139 14 ls (.long x.toInt64 :: st) w := E_i2l rfl
theorem e_139_14 {ls : ab_L} {st : List Value} {w : ab_W} {v0 v1 v2 : Value} (h1 : ab_recv ab_mt 107 [v0, v1, v2] w.2 = true) (h8 : ab_w8 st = true) : ab_Run ab_mt 139 14 ls (v2 :: v1 :: v0 :: st) w = ab_aft 107 139 14 ls st (ab_Cl 107 [v0, v1, v2] w) := E_call3 rfl h1 h8
theorem e_139_17 {ls : ab_L} {w : ab_W} {x : Int32} (h : ab_fitr 2 (.int x) = true) : ab_Run ab_mt 139 17 ls [.int x] w = some (.inl (some (.int x)), w) := E_retz rfl h
theorem rv_139 {σ : ab_S} {t : Nat} {x0 : Int32} : ab_recv ab_mt 139 [.ref t, .int x0] σ = ab_isO 7 (σ t) := rfl
theorem e_140_0 {ls : ab_L} {st : List Value} {w : ab_W} (h : ab_isR (ls 0) = true) : ab_Run ab_mt 140 0 ls st w = ab_Run ab_mt 140 1 ls (ab_gv (ls 0) :: st) w := E_loadr (n := 1) rfl h
theorem e_140_1 {ls : ab_L} {st : List Value} {w : ab_W} (h : ab_isR (ls 0) = true) : ab_Run ab_mt 140 1 ls st w = ab_Run ab_mt 140 2 ls (ab_gv (ls 0) :: st) w := E_loadr (n := 1) rfl h
theorem e_140_2 {ls : ab_L} {st : List Value} {w : ab_W} (h : ab_isI (ls 1) = true) : ab_Run ab_mt 140 2 ls st w = ab_Run ab_mt 140 3 ls (ab_gv (ls 1) :: st) w := E_loadi (n := 1) rfl h
theorem e_140_3 {ls : ab_L} {st : List Value} {w : ab_W} {v0 v1 : Value} (h1 : ab_recv ab_mt 139 [v0, v1] w.2 = true) (h8 : ab_w8 st = true) : ab_Run ab_mt 140 3 ls (v1 :: v0 :: st) w = ab_aft 139 140 3 ls st (ab_Cl 139 [v0, v1] w) := E_call2 rfl h1 h8
theorem e_140_6 {ls : ab_L} {st : List Value} {w : ab_W} {x : Int32} : ab_Run ab_mt 140 6 ls (.int x :: st) w = if x = 0 then ab_Run ab_mt 140 9 ls st w else ab_Run ab_mt 140 13 ls st w := E_if_ne rfl
theorem e_140_9 {ls : ab_L} {st : List Value} {w : ab_W} : ab_Run ab_mt 140 9 ls st w = ab_Run ab_mt 140 10 ls (.int (nI 1) :: st) w := E_push (n := 1) rfl
theorem e_140_10 {ls : ab_L} {st : List Value} {w : ab_W} : ab_Run ab_mt 140 10 ls st w = ab_Run ab_mt 140 25 ls st w := E_goto rfl
theorem e_140_13 {ls : ab_L} {st : List Value} {w : ab_W} (h : ab_isR (ls 0) = true) : ab_Run ab_mt 140 13 ls st w = ab_Run ab_mt 140 14 ls (ab_gv (ls 0) :: st) w := E_loadr (n := 1) rfl h
theorem e_140_14 {ls : ab_L} {st : List Value} {w : ab_W} {a : Nat} (h : ab_isF 7 9 (w.2 a) = true) : ab_Run ab_mt 140 14 ls (.ref a :: st) w = ab_Run ab_mt 140 17 ls (ab_fv 9 (w.2 a) :: st) w := E_get rfl h
theorem e_140_17 {ls : ab_L} {st : List Value} {w : ab_W} {x : Int32} : ab_Run ab_mt 140 17 ls (.int x :: st) w = if x = 0 then ab_Run ab_mt 140 24 ls st w else ab_Run ab_mt 140 20 ls st w := E_if_eq rfl
theorem e_140_20 {ls : ab_L} {st : List Value} {w : ab_W} : ab_Run ab_mt 140 20 ls st w = ab_Run ab_mt 140 21 ls (.int (nI 2) :: st) w := E_push (n := 1) rfl
theorem e_140_21 {ls : ab_L} {st : List Value} {w : ab_W} : ab_Run ab_mt 140 21 ls st w = ab_Run ab_mt 140 25 ls st w := E_goto rfl
theorem e_140_24 {ls : ab_L} {st : List Value} {w : ab_W} : ab_Run ab_mt 140 24 ls st w = ab_Run ab_mt 140 25 ls (.int (nI 0) :: st) w := E_push (n := 1) rfl
theorem e_140_25 {ls : ab_L} {st : List Value} {w : ab_W} {a : Nat} {x : Int32} (h : ab_isF 7 0 (w.2 a) = true) : ab_Run ab_mt 140 25 ls (.int x :: .ref a :: st) w = ab_Run ab_mt 140 28 ls st (w.1, ab_up w.2 a (ab_sf 0 (.int x) (w.2 a))) := E_put rfl h rfl
theorem e_140_28 {ls : ab_L} {st : List Value} {w : ab_W} (h : ab_isR (ls 0) = true) : ab_Run ab_mt 140 28 ls st w = ab_Run ab_mt 140 29 ls (ab_gv (ls 0) :: st) w := E_loadr (n := 1) rfl h
theorem e_140_29 {ls : ab_L} {st : List Value} {w : ab_W} {a : Nat} (h : ab_isF 7 0 (w.2 a) = true) : ab_Run ab_mt 140 29 ls (.ref a :: st) w = ab_Run ab_mt 140 32 ls (ab_fv 0 (w.2 a) :: st) w := E_get rfl h
theorem e_140_32 {ls : ab_L} {st : List Value} {w : ab_W} {x : Int32} : ab_Run ab_mt 140 32 ls (.int x :: st) w = if x ≤ 0 then ab_Run ab_mt 140 37 ls st w else ab_Run ab_mt 140 35 ls st w := E_if_le rfl
theorem e_140_35 {ls : ab_L} {st : List Value} {w : ab_W} : ab_Run ab_mt 140 35 ls st w = ab_Run ab_mt 140 36 ls (.int (nI 0) :: st) w := E_push (n := 1) rfl
theorem e_140_36 {ls : ab_L} {w : ab_W} {x : Int32} : ab_Run ab_mt 140 36 ls [.int x] w = some (.inl (some (.int x)), w) := E_reti rfl
theorem e_140_37 {ls : ab_L} {st : List Value} {w : ab_W} (h : ab_isR (ls 0) = true) : ab_Run ab_mt 140 37 ls st w = ab_Run ab_mt 140 38 ls (ab_gv (ls 0) :: st) w := E_loadr (n := 1) rfl h
theorem e_140_38 {ls : ab_L} {st : List Value} {w : ab_W} {v0 : Value} (h1 : ab_recv ab_mt 117 [v0] w.2 = true) (h8 : ab_w8 st = true) : ab_Run ab_mt 140 38 ls (v0 :: st) w = ab_aft 117 140 38 ls st (ab_Cl 117 [v0] w) := E_call1 rfl h1 h8
theorem e_140_41 {ls : ab_L} {st : List Value} {w : ab_W} (h : ab_isR (ls 0) = true) : ab_Run ab_mt 140 41 ls st w = ab_Run ab_mt 140 42 ls (ab_gv (ls 0) :: st) w := E_loadr (n := 1) rfl h
theorem e_140_42 {ls : ab_L} {st : List Value} {w : ab_W} {a : Nat} (h : ab_isF 7 1 (w.2 a) = true) : ab_Run ab_mt 140 42 ls (.ref a :: st) w = ab_Run ab_mt 140 45 ls (ab_fv 1 (w.2 a) :: st) w := E_get rfl h
theorem e_140_45 {ls : ab_L} {st : List Value} {w : ab_W} : ab_Run ab_mt 140 45 ls st w = ab_Run ab_mt 140 48 ls (.int (nI 192) :: st) w := E_push (n := 3) rfl
theorem e_140_48 {ls : ab_L} {st : List Value} {w : ab_W} {x : Nat} {y : Int32} : ab_Run ab_mt 140 48 ls (.int y :: .ref x :: st) w = ab_Run ab_mt 140 49 ls (.int y :: .ref x :: .int y :: .ref x :: st) w := E_dup2 rfl
theorem e_140_49 {ls : ab_L} {st : List Value} {w : ab_W} {a : Nat} {i : Int32} (h : ab_inI i (w.2 a) = true) : ab_Run ab_mt 140 49 ls (.int i :: .ref a :: st) w = ab_Run ab_mt 140 50 ls (.int (ab_aI i.toNatClampNeg (w.2 a)) :: st) w := E_iald rfl h
theorem e_140_50 {ls : ab_L} {st : List Value} {w : ab_W} : ab_Run ab_mt 140 50 ls st w = ab_Run ab_mt 140 51 ls (.int (nI 1) :: st) w := E_push (n := 1) rfl
theorem e_140_51 {ls : ab_L} {st : List Value} {w : ab_W} {x y : Int32} : ab_Run ab_mt 140 51 ls (.int y :: .int x :: st) w = ab_Run ab_mt 140 52 ls (.int (x - y) :: st) w := E_ib (f := fun x y => x - y) rfl
theorem e_140_52 {ls : ab_L} {st : List Value} {w : ab_W} {a : Nat} {i x : Int32} (h : ab_inW i (w.2 a) = true) : ab_Run ab_mt 140 52 ls (.int x :: .int i :: .ref a :: st) w = ab_Run ab_mt 140 53 ls st (w.1, ab_up w.2 a (ab_sI i.toNatClampNeg x (w.2 a))) := E_iast rfl h
theorem e_140_53 {ls : ab_L} {st : List Value} {w : ab_W} : ab_Run ab_mt 140 53 ls st w = ab_Run ab_mt 140 56 ls (.int (nI 153) :: st) w := E_push (n := 3) rfl
theorem e_140_56 {ls : ab_L} {st : List Value} {w : ab_W} : ab_Run ab_mt 140 56 ls st w = ab_Run ab_mt 140 57 ls (.int (nI 3) :: st) w := E_push (n := 1) rfl
theorem e_140_57 {ls : ab_L} {st : List Value} {w : ab_W} (h : ab_isI (ls 1) = true) : ab_Run ab_mt 140 57 ls st w = ab_Run ab_mt 140 58 ls (ab_gv (ls 1) :: st) w := E_loadi (n := 1) rfl h
theorem e_140_58 {ls : ab_L} {st : List Value} {w : ab_W} {x y : Int32} : ab_Run ab_mt 140 58 ls (.int y :: .int x :: st) w = ab_Run ab_mt 140 59 ls (.int (x * y) :: st) w := E_ib (f := fun x y => x * y) rfl
theorem e_140_59 {ls : ab_L} {st : List Value} {w : ab_W} {x y : Int32} : ab_Run ab_mt 140 59 ls (.int y :: .int x :: st) w = ab_Run ab_mt 140 60 ls (.int (x + y) :: st) w := E_ib (f := fun x y => x + y) rfl
theorem e_140_60 {ls : ab_L} {st : List Value} {w : ab_W} {x : Int32} : ab_Run ab_mt 140 60 ls (.int x :: st) w = ab_Run ab_mt 140 61 (ab_l1 ls 2 (.int x)) st w := E_stori (n := 1) rfl
theorem e_140_61 {ls : ab_L} {st : List Value} {w : ab_W} (h : ab_isI (ls 2) = true) : ab_Run ab_mt 140 61 ls st w = ab_Run ab_mt 140 62 ls (ab_gv (ls 2) :: st) w := E_loadi (n := 1) rfl h
theorem e_140_62 {ls : ab_L} {st : List Value} {w : ab_W} : ab_Run ab_mt 140 62 ls st w = ab_Run ab_mt 140 65 ls (.int (nI 153) :: st) w := E_push (n := 3) rfl
theorem e_140_65 {ls : ab_L} {st : List Value} {w : ab_W} : ab_Run ab_mt 140 65 ls st w = ab_Run ab_mt 140 66 ls (.int (nI 3) :: st) w := E_push (n := 1) rfl
theorem e_140_66 {ls : ab_L} {st : List Value} {w : ab_W} (h : ab_isR (ls 0) = true) : ab_Run ab_mt 140 66 ls st w = ab_Run ab_mt 140 67 ls (ab_gv (ls 0) :: st) w := E_loadr (n := 1) rfl h
theorem e_140_67 {ls : ab_L} {st : List Value} {w : ab_W} {a : Nat} (h : ab_isF 7 1 (w.2 a) = true) : ab_Run ab_mt 140 67 ls (.ref a :: st) w = ab_Run ab_mt 140 70 ls (ab_fv 1 (w.2 a) :: st) w := E_get rfl h
theorem e_140_70 {ls : ab_L} {st : List Value} {w : ab_W} : ab_Run ab_mt 140 70 ls st w = ab_Run ab_mt 140 73 ls (.int (nI 192) :: st) w := E_push (n := 3) rfl
theorem e_140_73 {ls : ab_L} {st : List Value} {w : ab_W} {a : Nat} {i : Int32} (h : ab_inI i (w.2 a) = true) : ab_Run ab_mt 140 73 ls (.int i :: .ref a :: st) w = ab_Run ab_mt 140 74 ls (.int (ab_aI i.toNatClampNeg (w.2 a)) :: st) w := E_iald rfl h
theorem e_140_74 {ls : ab_L} {st : List Value} {w : ab_W} {x y : Int32} : ab_Run ab_mt 140 74 ls (.int y :: .int x :: st) w = ab_Run ab_mt 140 75 ls (.int (x * y) :: st) w := E_ib (f := fun x y => x * y) rfl
theorem e_140_75 {ls : ab_L} {st : List Value} {w : ab_W} {x y : Int32} : ab_Run ab_mt 140 75 ls (.int y :: .int x :: st) w = ab_Run ab_mt 140 76 ls (.int (x + y) :: st) w := E_ib (f := fun x y => x + y) rfl
theorem e_140_76 {ls : ab_L} {st : List Value} {w : ab_W} {x y : Int32} : ab_Run ab_mt 140 76 ls (.int y :: .int x :: st) w = if y ≤ x then ab_Run ab_mt 140 99 ls st w else ab_Run ab_mt 140 79 ls st w := E_ic_ge rfl
theorem e_140_79 {ls : ab_L} {st : List Value} {w : ab_W} (h : ab_isR (ls 0) = true) : ab_Run ab_mt 140 79 ls st w = ab_Run ab_mt 140 80 ls (ab_gv (ls 0) :: st) w := E_loadr (n := 1) rfl h
theorem e_140_80 {ls : ab_L} {st : List Value} {w : ab_W} {a : Nat} (h : ab_isF 7 1 (w.2 a) = true) : ab_Run ab_mt 140 80 ls (.ref a :: st) w = ab_Run ab_mt 140 83 ls (ab_fv 1 (w.2 a) :: st) w := E_get rfl h
theorem e_140_83 {ls : ab_L} {st : List Value} {w : ab_W} (h : ab_isI (ls 2) = true) : ab_Run ab_mt 140 83 ls st w = ab_Run ab_mt 140 84 ls (ab_gv (ls 2) :: st) w := E_loadi (n := 1) rfl h
theorem e_140_84 {ls : ab_L} {st : List Value} {w : ab_W} (h : ab_isR (ls 0) = true) : ab_Run ab_mt 140 84 ls st w = ab_Run ab_mt 140 85 ls (ab_gv (ls 0) :: st) w := E_loadr (n := 1) rfl h
theorem e_140_85 {ls : ab_L} {st : List Value} {w : ab_W} {a : Nat} (h : ab_isF 7 1 (w.2 a) = true) : ab_Run ab_mt 140 85 ls (.ref a :: st) w = ab_Run ab_mt 140 88 ls (ab_fv 1 (w.2 a) :: st) w := E_get rfl h
theorem e_140_88 {ls : ab_L} {st : List Value} {w : ab_W} (h : ab_isI (ls 2) = true) : ab_Run ab_mt 140 88 ls st w = ab_Run ab_mt 140 89 ls (ab_gv (ls 2) :: st) w := E_loadi (n := 1) rfl h
theorem e_140_89 {ls : ab_L} {st : List Value} {w : ab_W} : ab_Run ab_mt 140 89 ls st w = ab_Run ab_mt 140 90 ls (.int (nI 3) :: st) w := E_push (n := 1) rfl
theorem e_140_90 {ls : ab_L} {st : List Value} {w : ab_W} {x y : Int32} : ab_Run ab_mt 140 90 ls (.int y :: .int x :: st) w = ab_Run ab_mt 140 91 ls (.int (x + y) :: st) w := E_ib (f := fun x y => x + y) rfl
theorem e_140_91 {ls : ab_L} {st : List Value} {w : ab_W} {a : Nat} {i : Int32} (h : ab_inI i (w.2 a) = true) : ab_Run ab_mt 140 91 ls (.int i :: .ref a :: st) w = ab_Run ab_mt 140 92 ls (.int (ab_aI i.toNatClampNeg (w.2 a)) :: st) w := E_iald rfl h
theorem e_140_92 {ls : ab_L} {st : List Value} {w : ab_W} {a : Nat} {i x : Int32} (h : ab_inW i (w.2 a) = true) : ab_Run ab_mt 140 92 ls (.int x :: .int i :: .ref a :: st) w = ab_Run ab_mt 140 93 ls st (w.1, ab_up w.2 a (ab_sI i.toNatClampNeg x (w.2 a))) := E_iast rfl h
theorem e_140_93 {ls : ab_L} {st : List Value} {w : ab_W} (h : ab_isI (ls 2) = true) : ab_Run ab_mt 140 93 ls st w = ab_Run ab_mt 140 96 (ab_l1 ls 2 (.int (ab_gi (ls 2) + (nI 1)))) st w := E_iinc rfl h
theorem e_140_96 {ls : ab_L} {st : List Value} {w : ab_W} : ab_Run ab_mt 140 96 ls st w = ab_Run ab_mt 140 61 ls st w := E_goto rfl
theorem e_140_99 {ls : ab_L} {st : List Value} {w : ab_W} (h : ab_isR (ls 0) = true) : ab_Run ab_mt 140 99 ls st w = ab_Run ab_mt 140 100 ls (ab_gv (ls 0) :: st) w := E_loadr (n := 1) rfl h
theorem e_140_100 {ls : ab_L} {st : List Value} {w : ab_W} {a : Nat} (h : ab_isF 7 1 (w.2 a) = true) : ab_Run ab_mt 140 100 ls (.ref a :: st) w = ab_Run ab_mt 140 103 ls (ab_fv 1 (w.2 a) :: st) w := E_get rfl h
theorem e_140_103 {ls : ab_L} {st : List Value} {w : ab_W} : ab_Run ab_mt 140 103 ls st w = ab_Run ab_mt 140 106 ls (.int (nI 192) :: st) w := E_push (n := 3) rfl
theorem e_140_106 {ls : ab_L} {st : List Value} {w : ab_W} {a : Nat} {i : Int32} (h : ab_inI i (w.2 a) = true) : ab_Run ab_mt 140 106 ls (.int i :: .ref a :: st) w = ab_Run ab_mt 140 107 ls (.int (ab_aI i.toNatClampNeg (w.2 a)) :: st) w := E_iald rfl h
theorem e_140_107 {ls : ab_L} {w : ab_W} {x : Int32} : ab_Run ab_mt 140 107 ls [.int x] w = some (.inl (some (.int x)), w) := E_reti rfl
theorem rv_140 {σ : ab_S} {t : Nat} {x0 : Int32} : ab_recv ab_mt 140 [.ref t, .int x0] σ = ab_isO 7 (σ t) := rfl
theorem e_141_0 {ls : ab_L} {st : List Value} {w : ab_W} (h : ab_isI (ls 0) = true) : ab_Run ab_mt 141 0 ls st w = ab_Run ab_mt 141 1 ls (ab_gv (ls 0) :: st) w := E_loadi (n := 1) rfl h
theorem e_141_1 {ls : ab_L} {st : List Value} {w : ab_W} {x : Int32} : ab_Run ab_mt 141 1 ls (.int x :: st) w = if x = 0 then ab_Run ab_mt 141 4 ls st w else ab_Run ab_mt 141 9 ls st w := E_if_ne rfl
theorem e_141_4 {ls : ab_L} {st : List Value} {w : ab_W} : ab_Run ab_mt 141 4 ls st w = ab_Run ab_mt 141 6 ls (.int (nI 12) :: st) w := E_push (n := 2) rfl
theorem e_141_6 {ls : ab_L} {st : List Value} {w : ab_W} : ab_Run ab_mt 141 6 ls st w = ab_Run ab_mt 141 32 ls st w := E_goto rfl
theorem e_141_9 {ls : ab_L} {st : List Value} {w : ab_W} (h : ab_isI (ls 0) = true) : ab_Run ab_mt 141 9 ls st w = ab_Run ab_mt 141 10 ls (ab_gv (ls 0) :: st) w := E_loadi (n := 1) rfl h
theorem e_141_10 {ls : ab_L} {st : List Value} {w : ab_W} : ab_Run ab_mt 141 10 ls st w = ab_Run ab_mt 141 11 ls (.int (nI 1) :: st) w := E_push (n := 1) rfl
theorem e_141_11 {ls : ab_L} {st : List Value} {w : ab_W} {x y : Int32} : ab_Run ab_mt 141 11 ls (.int y :: .int x :: st) w = if x = y then ab_Run ab_mt 141 14 ls st w else ab_Run ab_mt 141 19 ls st w := E_ic_ne rfl
theorem e_141_14 {ls : ab_L} {st : List Value} {w : ab_W} : ab_Run ab_mt 141 14 ls st w = ab_Run ab_mt 141 16 ls (.int (nI 8) :: st) w := E_push (n := 2) rfl
theorem e_141_16 {ls : ab_L} {st : List Value} {w : ab_W} : ab_Run ab_mt 141 16 ls st w = ab_Run ab_mt 141 32 ls st w := E_goto rfl
theorem e_141_19 {ls : ab_L} {st : List Value} {w : ab_W} (h : ab_isI (ls 0) = true) : ab_Run ab_mt 141 19 ls st w = ab_Run ab_mt 141 20 ls (ab_gv (ls 0) :: st) w := E_loadi (n := 1) rfl h
theorem e_141_20 {ls : ab_L} {st : List Value} {w : ab_W} : ab_Run ab_mt 141 20 ls st w = ab_Run ab_mt 141 21 ls (.int (nI 2) :: st) w := E_push (n := 1) rfl
theorem e_141_21 {ls : ab_L} {st : List Value} {w : ab_W} {x y : Int32} : ab_Run ab_mt 141 21 ls (.int y :: .int x :: st) w = if x = y then ab_Run ab_mt 141 24 ls st w else ab_Run ab_mt 141 29 ls st w := E_ic_ne rfl
theorem e_141_24 {ls : ab_L} {st : List Value} {w : ab_W} : ab_Run ab_mt 141 24 ls st w = ab_Run ab_mt 141 26 ls (.int (nI 60000) :: st) w := E_push (n := 2) rfl
theorem e_141_26 {ls : ab_L} {st : List Value} {w : ab_W} : ab_Run ab_mt 141 26 ls st w = ab_Run ab_mt 141 32 ls st w := E_goto rfl
theorem e_141_29 {ls : ab_L} {st : List Value} {w : ab_W} : ab_Run ab_mt 141 29 ls st w = ab_Run ab_mt 141 32 ls (.int (nI 20000) :: st) w := E_push (n := 3) rfl
theorem e_141_32 {ls : ab_L} {w : ab_W} {x : Int32} : ab_Run ab_mt 141 32 ls [.int x] w = some (.inl (some (.int x)), w) := E_reti rfl
theorem rv_141 {σ : ab_S} {x0 : Int32} : ab_recv ab_mt 141 [.int x0] σ = true := rfl
theorem e_142_0 {ls : ab_L} {st : List Value} {w : ab_W} (h : ab_isR (ls 0) = true) : ab_Run ab_mt 142 0 ls st w = ab_Run ab_mt 142 1 ls (ab_gv (ls 0) :: st) w := E_loadr (n := 1) rfl h
theorem e_142_1 {ls : ab_L} {st : List Value} {w : ab_W} {a : Nat} (h : ab_isF 7 22 (w.2 a) = true) : ab_Run ab_mt 142 1 ls (.ref a :: st) w = ab_Run ab_mt 142 4 ls (ab_fv 22 (w.2 a) :: st) w := E_get rfl h
theorem e_142_4 {ls : ab_L} {st : List Value} {w : ab_W} {x : Int32} : ab_Run ab_mt 142 4 ls (.int x :: st) w = if x = 0 then ab_Run ab_mt 142 28 ls st w else ab_Run ab_mt 142 7 ls st w := E_if_eq rfl
theorem e_142_7 {ls : ab_L} {st : List Value} {w : ab_W} (h : ab_isR (ls 0) = true) : ab_Run ab_mt 142 7 ls st w = ab_Run ab_mt 142 8 ls (ab_gv (ls 0) :: st) w := E_loadr (n := 1) rfl h
theorem e_142_8 {ls : ab_L} {st : List Value} {w : ab_W} {a : Nat} (h : ab_isF 7 20 (w.2 a) = true) : ab_Run ab_mt 142 8 ls (.ref a :: st) w = ab_Run ab_mt 142 11 ls (ab_fv 20 (w.2 a) :: st) w := E_get rfl h
theorem e_142_11 {ls : ab_L} {st : List Value} {w : ab_W} : ab_Run ab_mt 142 11 ls st w = ab_Run ab_mt 142 12 ls (.int (nI 2) :: st) w := E_push (n := 1) rfl
theorem e_142_12 {ls : ab_L} {st : List Value} {w : ab_W} {x y : Int32} : ab_Run ab_mt 142 12 ls (.int y :: .int x :: st) w = if x = y then ab_Run ab_mt 142 15 ls st w else ab_Run ab_mt 142 24 ls st w := E_ic_ne rfl
theorem e_142_15 {ls : ab_L} {st : List Value} {w : ab_W} (h : ab_isR (ls 0) = true) : ab_Run ab_mt 142 15 ls st w = ab_Run ab_mt 142 16 ls (ab_gv (ls 0) :: st) w := E_loadr (n := 1) rfl h
theorem e_142_16 {ls : ab_L} {st : List Value} {w : ab_W} {a : Nat} (h : ab_isF 7 21 (w.2 a) = true) : ab_Run ab_mt 142 16 ls (.ref a :: st) w = ab_Run ab_mt 142 19 ls (ab_fv 21 (w.2 a) :: st) w := E_get rfl h
theorem e_142_19 {ls : ab_L} {st : List Value} {w : ab_W} : ab_Run ab_mt 142 19 ls st w = ab_Run ab_mt 142 21 ls (.int (nI 100) :: st) w := E_push (n := 2) rfl
theorem e_142_21 {ls : ab_L} {st : List Value} {w : ab_W} {x y : Int32} : ab_Run ab_mt 142 21 ls (.int y :: .int x :: st) w = if x < y then ab_Run ab_mt 142 28 ls st w else ab_Run ab_mt 142 24 ls st w := E_ic_lt rfl
theorem e_142_24 {ls : ab_L} {st : List Value} {w : ab_W} : ab_Run ab_mt 142 24 ls st w = ab_Run ab_mt 142 25 ls (.int (nI 1) :: st) w := E_push (n := 1) rfl
theorem e_142_25 {ls : ab_L} {st : List Value} {w : ab_W} : ab_Run ab_mt 142 25 ls st w = ab_Run ab_mt 142 29 ls st w := E_goto rfl
theorem e_142_28 {ls : ab_L} {st : List Value} {w : ab_W} : ab_Run ab_mt 142 28 ls st w = ab_Run ab_mt 142 29 ls (.int (nI 0) :: st) w := E_push (n := 1) rfl
theorem e_142_29 {ls : ab_L} {w : ab_W} {x : Int32} (h : ab_fitr 2 (.int x) = true) : ab_Run ab_mt 142 29 ls [.int x] w = some (.inl (some (.int x)), w) := E_retz rfl h
theorem rv_142 {σ : ab_S} {t : Nat} : ab_recv ab_mt 142 [.ref t] σ = ab_isO 7 (σ t) := rfl
theorem e_143_0 {ls : ab_L} {st : List Value} {w : ab_W} (h : ab_isR (ls 0) = true) : ab_Run ab_mt 143 0 ls st w = ab_Run ab_mt 143 1 ls (ab_gv (ls 0) :: st) w := E_loadr (n := 1) rfl h
theorem e_143_1 {ls : ab_L} {st : List Value} {w : ab_W} (h : ab_isI (ls 1) = true) : ab_Run ab_mt 143 1 ls st w = ab_Run ab_mt 143 2 ls (ab_gv (ls 1) :: st) w := E_loadi (n := 1) rfl h
theorem e_143_2 {ls : ab_L} {st : List Value} {w : ab_W} {a : Nat} {x : Int32} (h : ab_isF 7 20 (w.2 a) = true) : ab_Run ab_mt 143 2 ls (.int x :: .ref a :: st) w = ab_Run ab_mt 143 5 ls st (w.1, ab_up w.2 a (ab_sf 20 (.int x) (w.2 a))) := E_put rfl h rfl
theorem e_143_5 {ls : ab_L} {st : List Value} {w : ab_W} (h : ab_isR (ls 0) = true) : ab_Run ab_mt 143 5 ls st w = ab_Run ab_mt 143 6 ls (ab_gv (ls 0) :: st) w := E_loadr (n := 1) rfl h
theorem e_143_6 {ls : ab_L} {st : List Value} {w : ab_W} : ab_Run ab_mt 143 6 ls st w = ab_Run ab_mt 143 7 ls (.int (nI 0) :: st) w := E_push (n := 1) rfl
theorem e_143_7 {ls : ab_L} {st : List Value} {w : ab_W} {a : Nat} {x : Int32} (h : ab_isF 7 21 (w.2 a) = true) : ab_Run ab_mt 143 7 ls (.int x :: .ref a :: st) w = ab_Run ab_mt 143 10 ls st (w.1, ab_up w.2 a (ab_sf 21 (.int x) (w.2 a))) := E_put rfl h rfl
theorem e_143_10 {ls : ab_L} {st : List Value} {w : ab_W} (h : ab_isR (ls 0) = true) : ab_Run ab_mt 143 10 ls st w = ab_Run ab_mt 143 11 ls (ab_gv (ls 0) :: st) w := E_loadr (n := 1) rfl h
theorem e_143_11 {ls : ab_L} {st : List Value} {w : ab_W} : ab_Run ab_mt 143 11 ls st w = ab_Run ab_mt 143 12 ls (.int (nI 0) :: st) w := E_push (n := 1) rfl
theorem e_143_12 {ls : ab_L} {st : List Value} {w : ab_W} {a : Nat} {x : Int32} (h : ab_isF 7 22 (w.2 a) = true) (h2 : ab_fit 2 (.int x) = true) : ab_Run ab_mt 143 12 ls (.int x :: .ref a :: st) w = ab_Run ab_mt 143 15 ls st (w.1, ab_up w.2 a (ab_sf 22 (.int x) (w.2 a))) := E_put rfl h h2
theorem e_143_15 {ls : ab_L} {st : List Value} {w : ab_W} (h : ab_isI (ls 1) = true) : ab_Run ab_mt 143 15 ls st w = ab_Run ab_mt 143 16 ls (ab_gv (ls 1) :: st) w := E_loadi (n := 1) rfl h
theorem e_143_16 {ls : ab_L} {st : List Value} {w : ab_W} {x : Int32} : ab_Run ab_mt 143 16 ls (.int x :: st) w = if x = 0 then ab_Run ab_mt 143 19 ls st w else ab_Run ab_mt 143 73 ls st w := E_if_ne rfl
theorem e_143_19 {ls : ab_L} {st : List Value} {w : ab_W} (h : ab_isR (ls 0) = true) : ab_Run ab_mt 143 19 ls st w = ab_Run ab_mt 143 20 ls (ab_gv (ls 0) :: st) w := E_loadr (n := 1) rfl h
theorem e_143_20 {ls : ab_L} {st : List Value} {w : ab_W} {a : Nat} (h : ab_isF 7 19 (w.2 a) = true) : ab_Run ab_mt 143 20 ls (.ref a :: st) w = ab_Run ab_mt 143 23 ls (ab_fv 19 (w.2 a) :: st) w := E_get rfl h
theorem e_143_23 {ls : ab_L} {st : List Value} {w : ab_W} : ab_Run ab_mt 143 23 ls st w = ab_Run ab_mt 143 24 ls (.int (nI 4) :: st) w := E_push (n := 1) rfl
theorem e_143_24 {ls : ab_L} {st : List Value} {w : ab_W} (h : ab_isR (ls 0) = true) : ab_Run ab_mt 143 24 ls st w = ab_Run ab_mt 143 25 ls (ab_gv (ls 0) :: st) w := E_loadr (n := 1) rfl h
theorem e_143_25 {ls : ab_L} {st : List Value} {w : ab_W} {a : Nat} (h : ab_isF 7 18 (w.2 a) = true) : ab_Run ab_mt 143 25 ls (.ref a :: st) w = ab_Run ab_mt 143 28 ls (ab_fv 18 (w.2 a) :: st) w := E_get rfl h
theorem e_143_28 {ls : ab_L} {st : List Value} {w : ab_W} {x y : Int32} : ab_Run ab_mt 143 28 ls (.int y :: .int x :: st) w = ab_Run ab_mt 143 29 ls (.int (x * y) :: st) w := E_ib (f := fun x y => x * y) rfl
theorem e_143_29 {ls : ab_L} {st : List Value} {w : ab_W} : ab_Run ab_mt 143 29 ls st w = ab_Run ab_mt 143 30 ls (.int (nI 0) :: st) w := E_push (n := 1) rfl
theorem e_143_30 {ls : ab_L} {st : List Value} {w : ab_W} {a : Nat} {i x : Int32} (h : ab_inW i (w.2 a) = true) : ab_Run ab_mt 143 30 ls (.int x :: .int i :: .ref a :: st) w = ab_Run ab_mt 143 31 ls st (w.1, ab_up w.2 a (ab_sI i.toNatClampNeg x (w.2 a))) := E_iast rfl h
theorem e_143_31 {ls : ab_L} {st : List Value} {w : ab_W} (h : ab_isR (ls 0) = true) : ab_Run ab_mt 143 31 ls st w = ab_Run ab_mt 143 32 ls (ab_gv (ls 0) :: st) w := E_loadr (n := 1) rfl h
theorem e_143_32 {ls : ab_L} {st : List Value} {w : ab_W} {a : Nat} (h : ab_isF 7 19 (w.2 a) = true) : ab_Run ab_mt 143 32 ls (.ref a :: st) w = ab_Run ab_mt 143 35 ls (ab_fv 19 (w.2 a) :: st) w := E_get rfl h
theorem e_143_35 {ls : ab_L} {st : List Value} {w : ab_W} : ab_Run ab_mt 143 35 ls st w = ab_Run ab_mt 143 36 ls (.int (nI 4) :: st) w := E_push (n := 1) rfl
theorem e_143_36 {ls : ab_L} {st : List Value} {w : ab_W} (h : ab_isR (ls 0) = true) : ab_Run ab_mt 143 36 ls st w = ab_Run ab_mt 143 37 ls (ab_gv (ls 0) :: st) w := E_loadr (n := 1) rfl h
theorem e_143_37 {ls : ab_L} {st : List Value} {w : ab_W} {a : Nat} (h : ab_isF 7 18 (w.2 a) = true) : ab_Run ab_mt 143 37 ls (.ref a :: st) w = ab_Run ab_mt 143 40 ls (ab_fv 18 (w.2 a) :: st) w := E_get rfl h
theorem e_143_40 {ls : ab_L} {st : List Value} {w : ab_W} {x y : Int32} : ab_Run ab_mt 143 40 ls (.int y :: .int x :: st) w = ab_Run ab_mt 143 41 ls (.int (x * y) :: st) w := E_ib (f := fun x y => x * y) rfl
theorem e_143_41 {ls : ab_L} {st : List Value} {w : ab_W} : ab_Run ab_mt 143 41 ls st w = ab_Run ab_mt 143 42 ls (.int (nI 1) :: st) w := E_push (n := 1) rfl
theorem e_143_42 {ls : ab_L} {st : List Value} {w : ab_W} {x y : Int32} : ab_Run ab_mt 143 42 ls (.int y :: .int x :: st) w = ab_Run ab_mt 143 43 ls (.int (x + y) :: st) w := E_ib (f := fun x y => x + y) rfl
theorem e_143_43 {ls : ab_L} {st : List Value} {w : ab_W} : ab_Run ab_mt 143 43 ls st w = ab_Run ab_mt 143 44 ls (.int (nI 1) :: st) w := E_push (n := 1) rfl
theorem e_143_44 {ls : ab_L} {st : List Value} {w : ab_W} {a : Nat} {i x : Int32} (h : ab_inW i (w.2 a) = true) : ab_Run ab_mt 143 44 ls (.int x :: .int i :: .ref a :: st) w = ab_Run ab_mt 143 45 ls st (w.1, ab_up w.2 a (ab_sI i.toNatClampNeg x (w.2 a))) := E_iast rfl h
theorem e_143_45 {ls : ab_L} {st : List Value} {w : ab_W} (h : ab_isR (ls 0) = true) : ab_Run ab_mt 143 45 ls st w = ab_Run ab_mt 143 46 ls (ab_gv (ls 0) :: st) w := E_loadr (n := 1) rfl h
theorem e_143_46 {ls : ab_L} {st : List Value} {w : ab_W} {a : Nat} (h : ab_isF 7 19 (w.2 a) = true) : ab_Run ab_mt 143 46 ls (.ref a :: st) w = ab_Run ab_mt 143 49 ls (ab_fv 19 (w.2 a) :: st) w := E_get rfl h
theorem e_143_49 {ls : ab_L} {st : List Value} {w : ab_W} : ab_Run ab_mt 143 49 ls st w = ab_Run ab_mt 143 50 ls (.int (nI 4) :: st) w := E_push (n := 1) rfl
theorem e_143_50 {ls : ab_L} {st : List Value} {w : ab_W} (h : ab_isR (ls 0) = true) : ab_Run ab_mt 143 50 ls st w = ab_Run ab_mt 143 51 ls (ab_gv (ls 0) :: st) w := E_loadr (n := 1) rfl h
theorem e_143_51 {ls : ab_L} {st : List Value} {w : ab_W} {a : Nat} (h : ab_isF 7 18 (w.2 a) = true) : ab_Run ab_mt 143 51 ls (.ref a :: st) w = ab_Run ab_mt 143 54 ls (ab_fv 18 (w.2 a) :: st) w := E_get rfl h
theorem e_143_54 {ls : ab_L} {st : List Value} {w : ab_W} {x y : Int32} : ab_Run ab_mt 143 54 ls (.int y :: .int x :: st) w = ab_Run ab_mt 143 55 ls (.int (x * y) :: st) w := E_ib (f := fun x y => x * y) rfl
theorem e_143_55 {ls : ab_L} {st : List Value} {w : ab_W} : ab_Run ab_mt 143 55 ls st w = ab_Run ab_mt 143 56 ls (.int (nI 2) :: st) w := E_push (n := 1) rfl
theorem e_143_56 {ls : ab_L} {st : List Value} {w : ab_W} {x y : Int32} : ab_Run ab_mt 143 56 ls (.int y :: .int x :: st) w = ab_Run ab_mt 143 57 ls (.int (x + y) :: st) w := E_ib (f := fun x y => x + y) rfl
theorem e_143_57 {ls : ab_L} {st : List Value} {w : ab_W} : ab_Run ab_mt 143 57 ls st w = ab_Run ab_mt 143 58 ls (.int (nI 0) :: st) w := E_push (n := 1) rfl
theorem e_143_58 {ls : ab_L} {st : List Value} {w : ab_W} {a : Nat} {i x : Int32} (h : ab_inW i (w.2 a) = true) : ab_Run ab_mt 143 58 ls (.int x :: .int i :: .ref a :: st) w = ab_Run ab_mt 143 59 ls st (w.1, ab_up w.2 a (ab_sI i.toNatClampNeg x (w.2 a))) := E_iast rfl h
theorem e_143_59 {ls : ab_L} {st : List Value} {w : ab_W} (h : ab_isR (ls 0) = true) : ab_Run ab_mt 143 59 ls st w = ab_Run ab_mt 143 60 ls (ab_gv (ls 0) :: st) w := E_loadr (n := 1) rfl h
theorem e_143_60 {ls : ab_L} {st : List Value} {w : ab_W} {a : Nat} (h : ab_isF 7 19 (w.2 a) = true) : ab_Run ab_mt 143 60 ls (.ref a :: st) w = ab_Run ab_mt 143 63 ls (ab_fv 19 (w.2 a) :: st) w := E_get rfl h
theorem e_143_63 {ls : ab_L} {st : List Value} {w : ab_W} : ab_Run ab_mt 143 63 ls st w = ab_Run ab_mt 143 64 ls (.int (nI 4) :: st) w := E_push (n := 1) rfl
theorem e_143_64 {ls : ab_L} {st : List Value} {w : ab_W} (h : ab_isR (ls 0) = true) : ab_Run ab_mt 143 64 ls st w = ab_Run ab_mt 143 65 ls (ab_gv (ls 0) :: st) w := E_loadr (n := 1) rfl h
theorem e_143_65 {ls : ab_L} {st : List Value} {w : ab_W} {a : Nat} (h : ab_isF 7 18 (w.2 a) = true) : ab_Run ab_mt 143 65 ls (.ref a :: st) w = ab_Run ab_mt 143 68 ls (ab_fv 18 (w.2 a) :: st) w := E_get rfl h
theorem e_143_68 {ls : ab_L} {st : List Value} {w : ab_W} {x y : Int32} : ab_Run ab_mt 143 68 ls (.int y :: .int x :: st) w = ab_Run ab_mt 143 69 ls (.int (x * y) :: st) w := E_ib (f := fun x y => x * y) rfl
theorem e_143_69 {ls : ab_L} {st : List Value} {w : ab_W} : ab_Run ab_mt 143 69 ls st w = ab_Run ab_mt 143 70 ls (.int (nI 3) :: st) w := E_push (n := 1) rfl
theorem e_143_70 {ls : ab_L} {st : List Value} {w : ab_W} {x y : Int32} : ab_Run ab_mt 143 70 ls (.int y :: .int x :: st) w = ab_Run ab_mt 143 71 ls (.int (x + y) :: st) w := E_ib (f := fun x y => x + y) rfl
theorem e_143_71 {ls : ab_L} {st : List Value} {w : ab_W} : ab_Run ab_mt 143 71 ls st w = ab_Run ab_mt 143 72 ls (.int (nI 0) :: st) w := E_push (n := 1) rfl
theorem e_143_72 {ls : ab_L} {st : List Value} {w : ab_W} {a : Nat} {i x : Int32} (h : ab_inW i (w.2 a) = true) : ab_Run ab_mt 143 72 ls (.int x :: .int i :: .ref a :: st) w = ab_Run ab_mt 143 73 ls st (w.1, ab_up w.2 a (ab_sI i.toNatClampNeg x (w.2 a))) := E_iast rfl h
theorem e_143_73 {ls : ab_L} {w : ab_W} : ab_Run ab_mt 143 73 ls [] w = some (.inl none, w) := E_ret0 rfl
theorem rv_143 {σ : ab_S} {t : Nat} {x0 : Int32} : ab_recv ab_mt 143 [.ref t, .int x0] σ = ab_isO 7 (σ t) := rfl
theorem e_144_0 {ls : ab_L} {st : List Value} {w : ab_W} (h : ab_isI (ls 1) = true) : ab_Run ab_mt 144 0 ls st w = ab_Run ab_mt 144 1 ls (ab_gv (ls 1) :: st) w := E_loadi (n := 1) rfl h
theorem e_144_1 {ls : ab_L} {st : List Value} {w : ab_W} {x : Int32} : ab_Run ab_mt 144 1 ls (.int x :: st) w = ab_Run ab_mt 144 2 ls (.long x.toInt64 :: st) w := E_i2l rfl
theorem e_144_2 {ls : ab_L} {st : List Value} {w : ab_W} (h : ab_isR (ls 0) = true) : ab_Run ab_mt 144 2 ls st w = ab_Run ab_mt 144 3 ls (ab_gv (ls 0) :: st) w := E_loadr (n := 1) rfl h
theorem e_144_3 {ls : ab_L} {st : List Value} {w : ab_W} {a : Nat} (h : ab_isF 7 22 (w.2 a) = true) : ab_Run ab_mt 144 3 ls (.ref a :: st) w = ab_Run ab_mt 144 6 ls (ab_fv 22 (w.2 a) :: st) w := E_get rfl h
theorem e_144_6 {ls : ab_L} {st : List Value} {w : ab_W} {x : Int32} : ab_Run ab_mt 144 6 ls (.int x :: st) w = if x = 0 then ab_Run ab_mt 144 15 ls st w else ab_Run ab_mt 144 9 ls st w := E_if_eq rfl
theorem e_144_9 {ls : ab_L} {st : List Value} {w : ab_W} : ab_Run ab_mt 144 9 ls st w = ab_Run ab_mt 144 12 ls (.long (lN 48) :: st) w := E_push (n := 3) rfl
theorem e_144_12 {ls : ab_L} {st : List Value} {w : ab_W} : ab_Run ab_mt 144 12 ls st w = ab_Run ab_mt 144 18 ls st w := E_goto rfl
theorem e_144_15 {ls : ab_L} {st : List Value} {w : ab_W} : ab_Run ab_mt 144 15 ls st w = ab_Run ab_mt 144 18 ls (.long (lN 49) :: st) w := E_push (n := 3) rfl
theorem e_144_18 {ls : ab_L} {st : List Value} {w : ab_W} : ab_Run ab_mt 144 18 ls st w = ab_Run ab_mt 144 21 ls (.long (lN 57) :: st) w := E_push (n := 3) rfl
theorem e_144_21 {ls : ab_L} {st : List Value} {w : ab_W} {v0 v1 v2 : Value} (h1 : ab_recv ab_mt 107 [v0, v1, v2] w.2 = true) (h8 : ab_w8 st = true) : ab_Run ab_mt 144 21 ls (v2 :: v1 :: v0 :: st) w = ab_aft 107 144 21 ls st (ab_Cl 107 [v0, v1, v2] w) := E_call3 rfl h1 h8
theorem e_144_24 {ls : ab_L} {st : List Value} {w : ab_W} {x : Int32} : ab_Run ab_mt 144 24 ls (.int x :: st) w = if x = 0 then ab_Run ab_mt 144 53 ls st w else ab_Run ab_mt 144 27 ls st w := E_if_eq rfl
theorem e_144_27 {ls : ab_L} {st : List Value} {w : ab_W} : ab_Run ab_mt 144 27 ls st w = ab_Run ab_mt 144 29 ls (.int (nI 10) :: st) w := E_push (n := 2) rfl
theorem e_144_29 {ls : ab_L} {st : List Value} {w : ab_W} (h : ab_isR (ls 0) = true) : ab_Run ab_mt 144 29 ls st w = ab_Run ab_mt 144 30 ls (ab_gv (ls 0) :: st) w := E_loadr (n := 1) rfl h
theorem e_144_30 {ls : ab_L} {st : List Value} {w : ab_W} {a : Nat} (h : ab_isF 7 21 (w.2 a) = true) : ab_Run ab_mt 144 30 ls (.ref a :: st) w = ab_Run ab_mt 144 33 ls (ab_fv 21 (w.2 a) :: st) w := E_get rfl h
theorem e_144_33 {ls : ab_L} {st : List Value} {w : ab_W} {x y : Int32} : ab_Run ab_mt 144 33 ls (.int y :: .int x :: st) w = ab_Run ab_mt 144 34 ls (.int (x * y) :: st) w := E_ib (f := fun x y => x * y) rfl
theorem e_144_34 {ls : ab_L} {st : List Value} {w : ab_W} (h : ab_isI (ls 1) = true) : ab_Run ab_mt 144 34 ls st w = ab_Run ab_mt 144 35 ls (ab_gv (ls 1) :: st) w := E_loadi (n := 1) rfl h
theorem e_144_35 {ls : ab_L} {st : List Value} {w : ab_W} {x y : Int32} : ab_Run ab_mt 144 35 ls (.int y :: .int x :: st) w = ab_Run ab_mt 144 36 ls (.int (x + y) :: st) w := E_ib (f := fun x y => x + y) rfl
theorem e_144_36 {ls : ab_L} {st : List Value} {w : ab_W} : ab_Run ab_mt 144 36 ls st w = ab_Run ab_mt 144 38 ls (.int (nI 48) :: st) w := E_push (n := 2) rfl
theorem e_144_38 {ls : ab_L} {st : List Value} {w : ab_W} {x y : Int32} : ab_Run ab_mt 144 38 ls (.int y :: .int x :: st) w = ab_Run ab_mt 144 39 ls (.int (x - y) :: st) w := E_ib (f := fun x y => x - y) rfl
theorem e_144_39 {ls : ab_L} {st : List Value} {w : ab_W} (h : ab_isR (ls 0) = true) : ab_Run ab_mt 144 39 ls st w = ab_Run ab_mt 144 40 ls (ab_gv (ls 0) :: st) w := E_loadr (n := 1) rfl h
theorem e_144_40 {ls : ab_L} {st : List Value} {w : ab_W} {a : Nat} (h : ab_isF 7 20 (w.2 a) = true) : ab_Run ab_mt 144 40 ls (.ref a :: st) w = ab_Run ab_mt 144 43 ls (ab_fv 20 (w.2 a) :: st) w := E_get rfl h
theorem e_144_43 {ls : ab_L} {st : List Value} {w : ab_W} {v0 : Value} (h1 : ab_recv ab_mt 141 [v0] w.2 = true) (h8 : ab_w8 st = true) : ab_Run ab_mt 144 43 ls (v0 :: st) w = ab_aft 141 144 43 ls st (ab_Cl 141 [v0] w) := E_call1 rfl h1 h8
theorem e_144_46 {ls : ab_L} {st : List Value} {w : ab_W} {x y : Int32} : ab_Run ab_mt 144 46 ls (.int y :: .int x :: st) w = if y < x then ab_Run ab_mt 144 53 ls st w else ab_Run ab_mt 144 49 ls st w := E_ic_gt rfl
theorem e_144_49 {ls : ab_L} {st : List Value} {w : ab_W} : ab_Run ab_mt 144 49 ls st w = ab_Run ab_mt 144 50 ls (.int (nI 1) :: st) w := E_push (n := 1) rfl
theorem e_144_50 {ls : ab_L} {st : List Value} {w : ab_W} : ab_Run ab_mt 144 50 ls st w = ab_Run ab_mt 144 54 ls st w := E_goto rfl
theorem e_144_53 {ls : ab_L} {st : List Value} {w : ab_W} : ab_Run ab_mt 144 53 ls st w = ab_Run ab_mt 144 54 ls (.int (nI 0) :: st) w := E_push (n := 1) rfl
theorem e_144_54 {ls : ab_L} {st : List Value} {w : ab_W} {x : Int32} : ab_Run ab_mt 144 54 ls (.int x :: st) w = ab_Run ab_mt 144 55 (ab_l1 ls 2 (.int x)) st w := E_stori (n := 1) rfl
theorem e_144_55 {ls : ab_L} {st : List Value} {w : ab_W} (h : ab_isI (ls 2) = true) : ab_Run ab_mt 144 55 ls st w = ab_Run ab_mt 144 56 ls (ab_gv (ls 2) :: st) w := E_loadi (n := 1) rfl h
theorem e_144_56 {ls : ab_L} {st : List Value} {w : ab_W} {x : Int32} : ab_Run ab_mt 144 56 ls (.int x :: st) w = if x = 0 then ab_Run ab_mt 144 100 ls st w else ab_Run ab_mt 144 59 ls st w := E_if_eq rfl
theorem e_144_59 {ls : ab_L} {st : List Value} {w : ab_W} (h : ab_isR (ls 0) = true) : ab_Run ab_mt 144 59 ls st w = ab_Run ab_mt 144 60 ls (ab_gv (ls 0) :: st) w := E_loadr (n := 1) rfl h
theorem e_144_60 {ls : ab_L} {st : List Value} {w : ab_W} : ab_Run ab_mt 144 60 ls st w = ab_Run ab_mt 144 62 ls (.int (nI 10) :: st) w := E_push (n := 2) rfl
theorem e_144_62 {ls : ab_L} {st : List Value} {w : ab_W} (h : ab_isR (ls 0) = true) : ab_Run ab_mt 144 62 ls st w = ab_Run ab_mt 144 63 ls (ab_gv (ls 0) :: st) w := E_loadr (n := 1) rfl h
theorem e_144_63 {ls : ab_L} {st : List Value} {w : ab_W} {a : Nat} (h : ab_isF 7 21 (w.2 a) = true) : ab_Run ab_mt 144 63 ls (.ref a :: st) w = ab_Run ab_mt 144 66 ls (ab_fv 21 (w.2 a) :: st) w := E_get rfl h
theorem e_144_66 {ls : ab_L} {st : List Value} {w : ab_W} {x y : Int32} : ab_Run ab_mt 144 66 ls (.int y :: .int x :: st) w = ab_Run ab_mt 144 67 ls (.int (x * y) :: st) w := E_ib (f := fun x y => x * y) rfl
theorem e_144_67 {ls : ab_L} {st : List Value} {w : ab_W} (h : ab_isI (ls 1) = true) : ab_Run ab_mt 144 67 ls st w = ab_Run ab_mt 144 68 ls (ab_gv (ls 1) :: st) w := E_loadi (n := 1) rfl h
theorem e_144_68 {ls : ab_L} {st : List Value} {w : ab_W} {x y : Int32} : ab_Run ab_mt 144 68 ls (.int y :: .int x :: st) w = ab_Run ab_mt 144 69 ls (.int (x + y) :: st) w := E_ib (f := fun x y => x + y) rfl
theorem e_144_69 {ls : ab_L} {st : List Value} {w : ab_W} : ab_Run ab_mt 144 69 ls st w = ab_Run ab_mt 144 71 ls (.int (nI 48) :: st) w := E_push (n := 2) rfl
theorem e_144_71 {ls : ab_L} {st : List Value} {w : ab_W} {x y : Int32} : ab_Run ab_mt 144 71 ls (.int y :: .int x :: st) w = ab_Run ab_mt 144 72 ls (.int (x - y) :: st) w := E_ib (f := fun x y => x - y) rfl
theorem e_144_72 {ls : ab_L} {st : List Value} {w : ab_W} {a : Nat} {x : Int32} (h : ab_isF 7 21 (w.2 a) = true) : ab_Run ab_mt 144 72 ls (.int x :: .ref a :: st) w = ab_Run ab_mt 144 75 ls st (w.1, ab_up w.2 a (ab_sf 21 (.int x) (w.2 a))) := E_put rfl h rfl
theorem e_144_75 {ls : ab_L} {st : List Value} {w : ab_W} (h : ab_isR (ls 0) = true) : ab_Run ab_mt 144 75 ls st w = ab_Run ab_mt 144 76 ls (ab_gv (ls 0) :: st) w := E_loadr (n := 1) rfl h
theorem e_144_76 {ls : ab_L} {st : List Value} {w : ab_W} : ab_Run ab_mt 144 76 ls st w = ab_Run ab_mt 144 77 ls (.int (nI 1) :: st) w := E_push (n := 1) rfl
theorem e_144_77 {ls : ab_L} {st : List Value} {w : ab_W} {a : Nat} {x : Int32} (h : ab_isF 7 22 (w.2 a) = true) (h2 : ab_fit 2 (.int x) = true) : ab_Run ab_mt 144 77 ls (.int x :: .ref a :: st) w = ab_Run ab_mt 144 80 ls st (w.1, ab_up w.2 a (ab_sf 22 (.int x) (w.2 a))) := E_put rfl h h2
theorem e_144_80 {ls : ab_L} {st : List Value} {w : ab_W} (h : ab_isR (ls 0) = true) : ab_Run ab_mt 144 80 ls st w = ab_Run ab_mt 144 81 ls (ab_gv (ls 0) :: st) w := E_loadr (n := 1) rfl h
theorem e_144_81 {ls : ab_L} {st : List Value} {w : ab_W} {a : Nat} (h : ab_isF 7 19 (w.2 a) = true) : ab_Run ab_mt 144 81 ls (.ref a :: st) w = ab_Run ab_mt 144 84 ls (ab_fv 19 (w.2 a) :: st) w := E_get rfl h
theorem e_144_84 {ls : ab_L} {st : List Value} {w : ab_W} : ab_Run ab_mt 144 84 ls st w = ab_Run ab_mt 144 85 ls (.int (nI 4) :: st) w := E_push (n := 1) rfl
theorem e_144_85 {ls : ab_L} {st : List Value} {w : ab_W} (h : ab_isR (ls 0) = true) : ab_Run ab_mt 144 85 ls st w = ab_Run ab_mt 144 86 ls (ab_gv (ls 0) :: st) w := E_loadr (n := 1) rfl h
theorem e_144_86 {ls : ab_L} {st : List Value} {w : ab_W} {a : Nat} (h : ab_isF 7 18 (w.2 a) = true) : ab_Run ab_mt 144 86 ls (.ref a :: st) w = ab_Run ab_mt 144 89 ls (ab_fv 18 (w.2 a) :: st) w := E_get rfl h
theorem e_144_89 {ls : ab_L} {st : List Value} {w : ab_W} {x y : Int32} : ab_Run ab_mt 144 89 ls (.int y :: .int x :: st) w = ab_Run ab_mt 144 90 ls (.int (x * y) :: st) w := E_ib (f := fun x y => x * y) rfl
theorem e_144_90 {ls : ab_L} {st : List Value} {w : ab_W} (h : ab_isR (ls 0) = true) : ab_Run ab_mt 144 90 ls st w = ab_Run ab_mt 144 91 ls (ab_gv (ls 0) :: st) w := E_loadr (n := 1) rfl h
theorem e_144_91 {ls : ab_L} {st : List Value} {w : ab_W} {a : Nat} (h : ab_isF 7 20 (w.2 a) = true) : ab_Run ab_mt 144 91 ls (.ref a :: st) w = ab_Run ab_mt 144 94 ls (ab_fv 20 (w.2 a) :: st) w := E_get rfl h
theorem e_144_94 {ls : ab_L} {st : List Value} {w : ab_W} {x y : Int32} : ab_Run ab_mt 144 94 ls (.int y :: .int x :: st) w = ab_Run ab_mt 144 95 ls (.int (x + y) :: st) w := E_ib (f := fun x y => x + y) rfl
theorem e_144_95 {ls : ab_L} {st : List Value} {w : ab_W} (h : ab_isR (ls 0) = true) : ab_Run ab_mt 144 95 ls st w = ab_Run ab_mt 144 96 ls (ab_gv (ls 0) :: st) w := E_loadr (n := 1) rfl h
theorem e_144_96 {ls : ab_L} {st : List Value} {w : ab_W} {a : Nat} (h : ab_isF 7 21 (w.2 a) = true) : ab_Run ab_mt 144 96 ls (.ref a :: st) w = ab_Run ab_mt 144 99 ls (ab_fv 21 (w.2 a) :: st) w := E_get rfl h
theorem e_144_99 {ls : ab_L} {st : List Value} {w : ab_W} {a : Nat} {i x : Int32} (h : ab_inW i (w.2 a) = true) : ab_Run ab_mt 144 99 ls (.int x :: .int i :: .ref a :: st) w = ab_Run ab_mt 144 100 ls st (w.1, ab_up w.2 a (ab_sI i.toNatClampNeg x (w.2 a))) := E_iast rfl h
theorem e_144_100 {ls : ab_L} {st : List Value} {w : ab_W} (h : ab_isI (ls 2) = true) : ab_Run ab_mt 144 100 ls st w = ab_Run ab_mt 144 101 ls (ab_gv (ls 2) :: st) w := E_loadi (n := 1) rfl h
theorem e_144_101 {ls : ab_L} {w : ab_W} {x : Int32} (h : ab_fitr 2 (.int x) = true) : ab_Run ab_mt 144 101 ls [.int x] w = some (.inl (some (.int x)), w) := E_retz rfl h
theorem rv_144 {σ : ab_S} {t : Nat} {x0 : Int32} : ab_recv ab_mt 144 [.ref t, .int x0] σ = ab_isO 7 (σ t) := rfl
theorem e_145_0 {ls : ab_L} {st : List Value} {w : ab_W} (h : ab_isR (ls 0) = true) : ab_Run ab_mt 145 0 ls st w = ab_Run ab_mt 145 1 ls (ab_gv (ls 0) :: st) w := E_loadr (n := 1) rfl h
theorem e_145_1 {ls : ab_L} {st : List Value} {w : ab_W} {v0 : Value} (h1 : ab_recv ab_mt 142 [v0] w.2 = true) (h8 : ab_w8 st = true) : ab_Run ab_mt 145 1 ls (v0 :: st) w = ab_aft 142 145 1 ls st (ab_Cl 142 [v0] w) := E_call1 rfl h1 h8
theorem e_145_4 {ls : ab_L} {st : List Value} {w : ab_W} {x : Int32} : ab_Run ab_mt 145 4 ls (.int x :: st) w = if x = 0 then ab_Run ab_mt 145 7 ls st w else ab_Run ab_mt 145 13 ls st w := E_if_ne rfl
theorem e_145_7 {ls : ab_L} {st : List Value} {w : ab_W} (h : ab_isR (ls 0) = true) : ab_Run ab_mt 145 7 ls st w = ab_Run ab_mt 145 8 ls (ab_gv (ls 0) :: st) w := E_loadr (n := 1) rfl h
theorem e_145_8 {ls : ab_L} {st : List Value} {w : ab_W} (h : ab_isI (ls 1) = true) : ab_Run ab_mt 145 8 ls st w = ab_Run ab_mt 145 9 ls (ab_gv (ls 1) :: st) w := E_loadi (n := 1) rfl h
theorem e_145_9 {ls : ab_L} {st : List Value} {w : ab_W} {v0 v1 : Value} (h1 : ab_recv ab_mt 144 [v0, v1] w.2 = true) (h8 : ab_w8 st = true) : ab_Run ab_mt 145 9 ls (v1 :: v0 :: st) w = ab_aft 144 145 9 ls st (ab_Cl 144 [v0, v1] w) := E_call2 rfl h1 h8
theorem e_145_12 {ls : ab_L} {w : ab_W} {x : Int32} (h : ab_fitr 2 (.int x) = true) : ab_Run ab_mt 145 12 ls [.int x] w = some (.inl (some (.int x)), w) := E_retz rfl h
theorem e_145_13 {ls : ab_L} {st : List Value} {w : ab_W} (h : ab_isI (ls 1) = true) : ab_Run ab_mt 145 13 ls st w = ab_Run ab_mt 145 14 ls (ab_gv (ls 1) :: st) w := E_loadi (n := 1) rfl h
theorem e_145_14 {ls : ab_L} {st : List Value} {w : ab_W} : ab_Run ab_mt 145 14 ls st w = ab_Run ab_mt 145 16 ls (.int (nI 59) :: st) w := E_push (n := 2) rfl
theorem e_145_16 {ls : ab_L} {st : List Value} {w : ab_W} {x y : Int32} : ab_Run ab_mt 145 16 ls (.int y :: .int x :: st) w = if x = y then ab_Run ab_mt 145 19 ls st w else ab_Run ab_mt 145 36 ls st w := E_ic_ne rfl
theorem e_145_19 {ls : ab_L} {st : List Value} {w : ab_W} (h : ab_isR (ls 0) = true) : ab_Run ab_mt 145 19 ls st w = ab_Run ab_mt 145 20 ls (ab_gv (ls 0) :: st) w := E_loadr (n := 1) rfl h
theorem e_145_20 {ls : ab_L} {st : List Value} {w : ab_W} {x : Nat} : ab_Run ab_mt 145 20 ls (.ref x :: st) w = ab_Run ab_mt 145 21 ls (.ref x :: .ref x :: st) w := E_dup_r rfl
theorem e_145_21 {ls : ab_L} {st : List Value} {w : ab_W} {a : Nat} (h : ab_isF 7 18 (w.2 a) = true) : ab_Run ab_mt 145 21 ls (.ref a :: st) w = ab_Run ab_mt 145 24 ls (ab_fv 18 (w.2 a) :: st) w := E_get rfl h
theorem e_145_24 {ls : ab_L} {st : List Value} {w : ab_W} : ab_Run ab_mt 145 24 ls st w = ab_Run ab_mt 145 25 ls (.int (nI 1) :: st) w := E_push (n := 1) rfl
theorem e_145_25 {ls : ab_L} {st : List Value} {w : ab_W} {x y : Int32} : ab_Run ab_mt 145 25 ls (.int y :: .int x :: st) w = ab_Run ab_mt 145 26 ls (.int (x + y) :: st) w := E_ib (f := fun x y => x + y) rfl
theorem e_145_26 {ls : ab_L} {st : List Value} {w : ab_W} {a : Nat} {x : Int32} (h : ab_isF 7 18 (w.2 a) = true) : ab_Run ab_mt 145 26 ls (.int x :: .ref a :: st) w = ab_Run ab_mt 145 29 ls st (w.1, ab_up w.2 a (ab_sf 18 (.int x) (w.2 a))) := E_put rfl h rfl
theorem e_145_29 {ls : ab_L} {st : List Value} {w : ab_W} (h : ab_isR (ls 0) = true) : ab_Run ab_mt 145 29 ls st w = ab_Run ab_mt 145 30 ls (ab_gv (ls 0) :: st) w := E_loadr (n := 1) rfl h
theorem e_145_30 {ls : ab_L} {st : List Value} {w : ab_W} : ab_Run ab_mt 145 30 ls st w = ab_Run ab_mt 145 31 ls (.int (nI 0) :: st) w := E_push (n := 1) rfl
theorem e_145_31 {ls : ab_L} {st : List Value} {w : ab_W} {v0 v1 : Value} (h1 : ab_recv ab_mt 143 [v0, v1] w.2 = true) (h8 : ab_w8 st = true) : ab_Run ab_mt 145 31 ls (v1 :: v0 :: st) w = ab_aft 143 145 31 ls st (ab_Cl 143 [v0, v1] w) := E_call2 rfl h1 h8
theorem e_145_34 {ls : ab_L} {st : List Value} {w : ab_W} : ab_Run ab_mt 145 34 ls st w = ab_Run ab_mt 145 35 ls (.int (nI 1) :: st) w := E_push (n := 1) rfl
theorem e_145_35 {ls : ab_L} {w : ab_W} {x : Int32} (h : ab_fitr 2 (.int x) = true) : ab_Run ab_mt 145 35 ls [.int x] w = some (.inl (some (.int x)), w) := E_retz rfl h
theorem e_145_36 {ls : ab_L} {st : List Value} {w : ab_W} (h : ab_isI (ls 1) = true) : ab_Run ab_mt 145 36 ls st w = ab_Run ab_mt 145 37 ls (ab_gv (ls 1) :: st) w := E_loadi (n := 1) rfl h
theorem e_145_37 {ls : ab_L} {st : List Value} {w : ab_W} : ab_Run ab_mt 145 37 ls st w = ab_Run ab_mt 145 39 ls (.int (nI 100) :: st) w := E_push (n := 2) rfl
theorem e_145_39 {ls : ab_L} {st : List Value} {w : ab_W} {x y : Int32} : ab_Run ab_mt 145 39 ls (.int y :: .int x :: st) w = if x = y then ab_Run ab_mt 145 42 ls st w else ab_Run ab_mt 145 46 ls st w := E_ic_ne rfl
theorem e_145_42 {ls : ab_L} {st : List Value} {w : ab_W} : ab_Run ab_mt 145 42 ls st w = ab_Run ab_mt 145 43 ls (.int (nI 1) :: st) w := E_push (n := 1) rfl
theorem e_145_43 {ls : ab_L} {st : List Value} {w : ab_W} : ab_Run ab_mt 145 43 ls st w = ab_Run ab_mt 145 67 ls st w := E_goto rfl
theorem e_145_46 {ls : ab_L} {st : List Value} {w : ab_W} (h : ab_isI (ls 1) = true) : ab_Run ab_mt 145 46 ls st w = ab_Run ab_mt 145 47 ls (ab_gv (ls 1) :: st) w := E_loadi (n := 1) rfl h
theorem e_145_47 {ls : ab_L} {st : List Value} {w : ab_W} : ab_Run ab_mt 145 47 ls st w = ab_Run ab_mt 145 49 ls (.int (nI 114) :: st) w := E_push (n := 2) rfl
theorem e_145_49 {ls : ab_L} {st : List Value} {w : ab_W} {x y : Int32} : ab_Run ab_mt 145 49 ls (.int y :: .int x :: st) w = if x = y then ab_Run ab_mt 145 52 ls st w else ab_Run ab_mt 145 56 ls st w := E_ic_ne rfl
theorem e_145_52 {ls : ab_L} {st : List Value} {w : ab_W} : ab_Run ab_mt 145 52 ls st w = ab_Run ab_mt 145 53 ls (.int (nI 2) :: st) w := E_push (n := 1) rfl
theorem e_145_53 {ls : ab_L} {st : List Value} {w : ab_W} : ab_Run ab_mt 145 53 ls st w = ab_Run ab_mt 145 67 ls st w := E_goto rfl
theorem e_145_56 {ls : ab_L} {st : List Value} {w : ab_W} (h : ab_isI (ls 1) = true) : ab_Run ab_mt 145 56 ls st w = ab_Run ab_mt 145 57 ls (ab_gv (ls 1) :: st) w := E_loadi (n := 1) rfl h
theorem e_145_57 {ls : ab_L} {st : List Value} {w : ab_W} : ab_Run ab_mt 145 57 ls st w = ab_Run ab_mt 145 59 ls (.int (nI 112) :: st) w := E_push (n := 2) rfl
theorem e_145_59 {ls : ab_L} {st : List Value} {w : ab_W} {x y : Int32} : ab_Run ab_mt 145 59 ls (.int y :: .int x :: st) w = if x = y then ab_Run ab_mt 145 62 ls st w else ab_Run ab_mt 145 66 ls st w := E_ic_ne rfl
theorem e_145_62 {ls : ab_L} {st : List Value} {w : ab_W} : ab_Run ab_mt 145 62 ls st w = ab_Run ab_mt 145 63 ls (.int (nI 3) :: st) w := E_push (n := 1) rfl
theorem e_145_63 {ls : ab_L} {st : List Value} {w : ab_W} : ab_Run ab_mt 145 63 ls st w = ab_Run ab_mt 145 67 ls st w := E_goto rfl
theorem e_145_66 {ls : ab_L} {st : List Value} {w : ab_W} : ab_Run ab_mt 145 66 ls st w = ab_Run ab_mt 145 67 ls (.int (nI 0) :: st) w := E_push (n := 1) rfl
theorem e_145_67 {ls : ab_L} {st : List Value} {w : ab_W} {x : Int32} : ab_Run ab_mt 145 67 ls (.int x :: st) w = ab_Run ab_mt 145 68 (ab_l1 ls 2 (.int x)) st w := E_stori (n := 1) rfl
theorem e_145_68 {ls : ab_L} {st : List Value} {w : ab_W} (h : ab_isI (ls 2) = true) : ab_Run ab_mt 145 68 ls st w = ab_Run ab_mt 145 69 ls (ab_gv (ls 2) :: st) w := E_loadi (n := 1) rfl h
theorem e_145_69 {ls : ab_L} {st : List Value} {w : ab_W} (h : ab_isR (ls 0) = true) : ab_Run ab_mt 145 69 ls st w = ab_Run ab_mt 145 70 ls (ab_gv (ls 0) :: st) w := E_loadr (n := 1) rfl h
theorem e_145_70 {ls : ab_L} {st : List Value} {w : ab_W} {a : Nat} (h : ab_isF 7 20 (w.2 a) = true) : ab_Run ab_mt 145 70 ls (.ref a :: st) w = ab_Run ab_mt 145 73 ls (ab_fv 20 (w.2 a) :: st) w := E_get rfl h
theorem e_145_73 {ls : ab_L} {st : List Value} {w : ab_W} {x y : Int32} : ab_Run ab_mt 145 73 ls (.int y :: .int x :: st) w = if x ≤ y then ab_Run ab_mt 145 83 ls st w else ab_Run ab_mt 145 76 ls st w := E_ic_le rfl
theorem e_145_76 {ls : ab_L} {st : List Value} {w : ab_W} (h : ab_isR (ls 0) = true) : ab_Run ab_mt 145 76 ls st w = ab_Run ab_mt 145 77 ls (ab_gv (ls 0) :: st) w := E_loadr (n := 1) rfl h
theorem e_145_77 {ls : ab_L} {st : List Value} {w : ab_W} (h : ab_isI (ls 2) = true) : ab_Run ab_mt 145 77 ls st w = ab_Run ab_mt 145 78 ls (ab_gv (ls 2) :: st) w := E_loadi (n := 1) rfl h
theorem e_145_78 {ls : ab_L} {st : List Value} {w : ab_W} {v0 v1 : Value} (h1 : ab_recv ab_mt 143 [v0, v1] w.2 = true) (h8 : ab_w8 st = true) : ab_Run ab_mt 145 78 ls (v1 :: v0 :: st) w = ab_aft 143 145 78 ls st (ab_Cl 143 [v0, v1] w) := E_call2 rfl h1 h8
theorem e_145_81 {ls : ab_L} {st : List Value} {w : ab_W} : ab_Run ab_mt 145 81 ls st w = ab_Run ab_mt 145 82 ls (.int (nI 1) :: st) w := E_push (n := 1) rfl
theorem e_145_82 {ls : ab_L} {w : ab_W} {x : Int32} (h : ab_fitr 2 (.int x) = true) : ab_Run ab_mt 145 82 ls [.int x] w = some (.inl (some (.int x)), w) := E_retz rfl h
theorem e_145_83 {ls : ab_L} {st : List Value} {w : ab_W} (h : ab_isR (ls 0) = true) : ab_Run ab_mt 145 83 ls st w = ab_Run ab_mt 145 84 ls (ab_gv (ls 0) :: st) w := E_loadr (n := 1) rfl h
theorem e_145_84 {ls : ab_L} {st : List Value} {w : ab_W} (h : ab_isI (ls 1) = true) : ab_Run ab_mt 145 84 ls st w = ab_Run ab_mt 145 85 ls (ab_gv (ls 1) :: st) w := E_loadi (n := 1) rfl h
theorem e_145_85 {ls : ab_L} {st : List Value} {w : ab_W} {v0 v1 : Value} (h1 : ab_recv ab_mt 144 [v0, v1] w.2 = true) (h8 : ab_w8 st = true) : ab_Run ab_mt 145 85 ls (v1 :: v0 :: st) w = ab_aft 144 145 85 ls st (ab_Cl 144 [v0, v1] w) := E_call2 rfl h1 h8
theorem e_145_88 {ls : ab_L} {w : ab_W} {x : Int32} (h : ab_fitr 2 (.int x) = true) : ab_Run ab_mt 145 88 ls [.int x] w = some (.inl (some (.int x)), w) := E_retz rfl h
theorem rv_145 {σ : ab_S} {t : Nat} {x0 : Int32} : ab_recv ab_mt 145 [.ref t, .int x0] σ = ab_isO 7 (σ t) := rfl
theorem e_146_0 {ls : ab_L} {st : List Value} {w : ab_W} (h : ab_isR (ls 0) = true) : ab_Run ab_mt 146 0 ls st w = ab_Run ab_mt 146 1 ls (ab_gv (ls 0) :: st) w := E_loadr (n := 1) rfl h
theorem e_146_1 {ls : ab_L} {st : List Value} {w : ab_W} : ab_Run ab_mt 146 1 ls st w = ab_Run ab_mt 146 2 ls (.int (nI 0) :: st) w := E_push (n := 1) rfl
theorem e_146_2 {ls : ab_L} {st : List Value} {w : ab_W} {a : Nat} {x : Int32} (h : ab_isF 7 18 (w.2 a) = true) : ab_Run ab_mt 146 2 ls (.int x :: .ref a :: st) w = ab_Run ab_mt 146 5 ls st (w.1, ab_up w.2 a (ab_sf 18 (.int x) (w.2 a))) := E_put rfl h rfl
theorem e_146_5 {ls : ab_L} {st : List Value} {w : ab_W} (h : ab_isR (ls 0) = true) : ab_Run ab_mt 146 5 ls st w = ab_Run ab_mt 146 6 ls (ab_gv (ls 0) :: st) w := E_loadr (n := 1) rfl h
theorem e_146_6 {ls : ab_L} {st : List Value} {w : ab_W} : ab_Run ab_mt 146 6 ls st w = ab_Run ab_mt 146 7 ls (.int (nI 0) :: st) w := E_push (n := 1) rfl
theorem e_146_7 {ls : ab_L} {st : List Value} {w : ab_W} {v0 v1 : Value} (h1 : ab_recv ab_mt 143 [v0, v1] w.2 = true) (h8 : ab_w8 st = true) : ab_Run ab_mt 146 7 ls (v1 :: v0 :: st) w = ab_aft 143 146 7 ls st (ab_Cl 143 [v0, v1] w) := E_call2 rfl h1 h8
theorem e_146_10 {ls : ab_L} {st : List Value} {w : ab_W} : ab_Run ab_mt 146 10 ls st w = ab_Run ab_mt 146 11 ls (.int (nI 0) :: st) w := E_push (n := 1) rfl
theorem e_146_11 {ls : ab_L} {st : List Value} {w : ab_W} {x : Int32} : ab_Run ab_mt 146 11 ls (.int x :: st) w = ab_Run ab_mt 146 12 (ab_l1 ls 1 (.int x)) st w := E_stori (n := 1) rfl
theorem e_146_12 {ls : ab_L} {st : List Value} {w : ab_W} (h : ab_isI (ls 1) = true) : ab_Run ab_mt 146 12 ls st w = ab_Run ab_mt 146 13 ls (ab_gv (ls 1) :: st) w := E_loadi (n := 1) rfl h
theorem e_146_13 {ls : ab_L} {st : List Value} {w : ab_W} (h : ab_isR (ls 0) = true) : ab_Run ab_mt 146 13 ls st w = ab_Run ab_mt 146 14 ls (ab_gv (ls 0) :: st) w := E_loadr (n := 1) rfl h
theorem e_146_14 {ls : ab_L} {st : List Value} {w : ab_W} {a : Nat} (h : ab_isF 7 7 (w.2 a) = true) : ab_Run ab_mt 146 14 ls (.ref a :: st) w = ab_Run ab_mt 146 17 ls (ab_fv 7 (w.2 a) :: st) w := E_get rfl h
theorem e_146_17 {ls : ab_L} {st : List Value} {w : ab_W} {x y : Int32} : ab_Run ab_mt 146 17 ls (.int y :: .int x :: st) w = if y ≤ x then ab_Run ab_mt 146 39 ls st w else ab_Run ab_mt 146 20 ls st w := E_ic_ge rfl
theorem e_146_20 {ls : ab_L} {st : List Value} {w : ab_W} (h : ab_isR (ls 0) = true) : ab_Run ab_mt 146 20 ls st w = ab_Run ab_mt 146 21 ls (ab_gv (ls 0) :: st) w := E_loadr (n := 1) rfl h
theorem e_146_21 {ls : ab_L} {st : List Value} {w : ab_W} (h : ab_isR (ls 0) = true) : ab_Run ab_mt 146 21 ls st w = ab_Run ab_mt 146 22 ls (ab_gv (ls 0) :: st) w := E_loadr (n := 1) rfl h
theorem e_146_22 {ls : ab_L} {st : List Value} {w : ab_W} {a : Nat} (h : ab_isF 7 8 (w.2 a) = true) : ab_Run ab_mt 146 22 ls (.ref a :: st) w = ab_Run ab_mt 146 25 ls (ab_fv 8 (w.2 a) :: st) w := E_get rfl h
theorem e_146_25 {ls : ab_L} {st : List Value} {w : ab_W} (h : ab_isI (ls 1) = true) : ab_Run ab_mt 146 25 ls st w = ab_Run ab_mt 146 26 ls (ab_gv (ls 1) :: st) w := E_loadi (n := 1) rfl h
theorem e_146_26 {ls : ab_L} {st : List Value} {w : ab_W} {a : Nat} {i : Int32} (h : ab_inI i (w.2 a) = true) : ab_Run ab_mt 146 26 ls (.int i :: .ref a :: st) w = ab_Run ab_mt 146 27 ls (.int (ab_aI i.toNatClampNeg (w.2 a)) :: st) w := E_iald rfl h
theorem e_146_27 {ls : ab_L} {st : List Value} {w : ab_W} {v0 v1 : Value} (h1 : ab_recv ab_mt 145 [v0, v1] w.2 = true) (h8 : ab_w8 st = true) : ab_Run ab_mt 146 27 ls (v1 :: v0 :: st) w = ab_aft 145 146 27 ls st (ab_Cl 145 [v0, v1] w) := E_call2 rfl h1 h8
theorem e_146_30 {ls : ab_L} {st : List Value} {w : ab_W} {x : Int32} : ab_Run ab_mt 146 30 ls (.int x :: st) w = if x = 0 then ab_Run ab_mt 146 39 ls st w else ab_Run ab_mt 146 33 ls st w := E_if_eq rfl
theorem e_146_33 {ls : ab_L} {st : List Value} {w : ab_W} (h : ab_isI (ls 1) = true) : ab_Run ab_mt 146 33 ls st w = ab_Run ab_mt 146 36 (ab_l1 ls 1 (.int (ab_gi (ls 1) + (nI 1)))) st w := E_iinc rfl h
theorem e_146_36 {ls : ab_L} {st : List Value} {w : ab_W} : ab_Run ab_mt 146 36 ls st w = ab_Run ab_mt 146 12 ls st w := E_goto rfl
theorem e_146_39 {ls : ab_L} {st : List Value} {w : ab_W} (h : ab_isI (ls 1) = true) : ab_Run ab_mt 146 39 ls st w = ab_Run ab_mt 146 40 ls (ab_gv (ls 1) :: st) w := E_loadi (n := 1) rfl h
theorem e_146_40 {ls : ab_L} {w : ab_W} {x : Int32} : ab_Run ab_mt 146 40 ls [.int x] w = some (.inl (some (.int x)), w) := E_reti rfl
theorem rv_146 {σ : ab_S} {t : Nat} : ab_recv ab_mt 146 [.ref t] σ = ab_isO 7 (σ t) := rfl
theorem e_147_0 {ls : ab_L} {st : List Value} {w : ab_W} (h : ab_isR (ls 0) = true) : ab_Run ab_mt 147 0 ls st w = ab_Run ab_mt 147 1 ls (ab_gv (ls 0) :: st) w := E_loadr (n := 1) rfl h
theorem e_147_1 {ls : ab_L} {st : List Value} {w : ab_W} : ab_Run ab_mt 147 1 ls st w = ab_Run ab_mt 147 2 ls (.int (nI 0) :: st) w := E_push (n := 1) rfl
theorem e_147_2 {ls : ab_L} {st : List Value} {w : ab_W} {a : Nat} {x : Int32} (h : ab_isF 7 0 (w.2 a) = true) : ab_Run ab_mt 147 2 ls (.int x :: .ref a :: st) w = ab_Run ab_mt 147 5 ls st (w.1, ab_up w.2 a (ab_sf 0 (.int x) (w.2 a))) := E_put rfl h rfl
theorem e_147_5 {ls : ab_L} {st : List Value} {w : ab_W} (h : ab_isR (ls 0) = true) : ab_Run ab_mt 147 5 ls st w = ab_Run ab_mt 147 6 ls (ab_gv (ls 0) :: st) w := E_loadr (n := 1) rfl h
theorem e_147_6 {ls : ab_L} {st : List Value} {w : ab_W} {v0 : Value} (h1 : ab_recv ab_mt 146 [v0] w.2 = true) (h8 : ab_w8 st = true) : ab_Run ab_mt 147 6 ls (v0 :: st) w = ab_aft 146 147 6 ls st (ab_Cl 146 [v0] w) := E_call1 rfl h1 h8
theorem e_147_9 {ls : ab_L} {w : ab_W} {x : Int32} : ab_Run ab_mt 147 9 ls [.int x] w = some (.inl (some (.int x)), w) := E_reti rfl
theorem rv_147 {σ : ab_S} {t : Nat} : ab_recv ab_mt 147 [.ref t] σ = ab_isO 7 (σ t) := rfl
theorem e_148_0 {ls : ab_L} {st : List Value} {w : ab_W} (h : ab_isR (ls 0) = true) : ab_Run ab_mt 148 0 ls st w = ab_Run ab_mt 148 1 ls (ab_gv (ls 0) :: st) w := E_loadr (n := 1) rfl h
theorem e_148_1 {ls : ab_L} {st : List Value} {w : ab_W} (h : ab_isI (ls 1) = true) : ab_Run ab_mt 148 1 ls st w = ab_Run ab_mt 148 2 ls (ab_gv (ls 1) :: st) w := E_loadi (n := 1) rfl h
theorem e_148_2 {ls : ab_L} {st : List Value} {w : ab_W} {x : Int32} : ab_Run ab_mt 148 2 ls (.int x :: st) w = ab_Run ab_mt 148 3 ls (.long x.toInt64 :: st) w := E_i2l rfl
theorem e_148_3 {ls : ab_L} {st : List Value} {w : ab_W} : ab_Run ab_mt 148 3 ls st w = ab_Run ab_mt 148 6 ls (.long (lN 32) :: st) w := E_push (n := 3) rfl
theorem e_148_6 {ls : ab_L} {st : List Value} {w : ab_W} : ab_Run ab_mt 148 6 ls st w = ab_Run ab_mt 148 9 ls (.long (lN 126) :: st) w := E_push (n := 3) rfl
theorem e_148_9 {ls : ab_L} {st : List Value} {w : ab_W} {v0 v1 v2 : Value} (h1 : ab_recv ab_mt 107 [v0, v1, v2] w.2 = true) (h8 : ab_w8 st = true) : ab_Run ab_mt 148 9 ls (v2 :: v1 :: v0 :: st) w = ab_aft 107 148 9 ls st (ab_Cl 107 [v0, v1, v2] w) := E_call3 rfl h1 h8
theorem e_148_12 {ls : ab_L} {st : List Value} {w : ab_W} {x : Int32} : ab_Run ab_mt 148 12 ls (.int x :: st) w = if x = 0 then ab_Run ab_mt 148 15 ls st w else ab_Run ab_mt 148 19 ls st w := E_if_ne rfl
theorem e_148_15 {ls : ab_L} {st : List Value} {w : ab_W} : ab_Run ab_mt 148 15 ls st w = ab_Run ab_mt 148 16 ls (.int (nI 1) :: st) w := E_push (n := 1) rfl
theorem e_148_16 {ls : ab_L} {st : List Value} {w : ab_W} : ab_Run ab_mt 148 16 ls st w = ab_Run ab_mt 148 33 ls st w := E_goto rfl
theorem e_148_19 {ls : ab_L} {st : List Value} {w : ab_W} (h : ab_isR (ls 0) = true) : ab_Run ab_mt 148 19 ls st w = ab_Run ab_mt 148 20 ls (ab_gv (ls 0) :: st) w := E_loadr (n := 1) rfl h
theorem e_148_20 {ls : ab_L} {st : List Value} {w : ab_W} {a : Nat} (h : ab_isF 7 7 (w.2 a) = true) : ab_Run ab_mt 148 20 ls (.ref a :: st) w = ab_Run ab_mt 148 23 ls (ab_fv 7 (w.2 a) :: st) w := E_get rfl h
theorem e_148_23 {ls : ab_L} {st : List Value} {w : ab_W} : ab_Run ab_mt 148 23 ls st w = ab_Run ab_mt 148 25 ls (.int (nI 60) :: st) w := E_push (n := 2) rfl
theorem e_148_25 {ls : ab_L} {st : List Value} {w : ab_W} {x y : Int32} : ab_Run ab_mt 148 25 ls (.int y :: .int x :: st) w = if x = y then ab_Run ab_mt 148 28 ls st w else ab_Run ab_mt 148 32 ls st w := E_ic_ne rfl
theorem e_148_28 {ls : ab_L} {st : List Value} {w : ab_W} : ab_Run ab_mt 148 28 ls st w = ab_Run ab_mt 148 29 ls (.int (nI 2) :: st) w := E_push (n := 1) rfl
theorem e_148_29 {ls : ab_L} {st : List Value} {w : ab_W} : ab_Run ab_mt 148 29 ls st w = ab_Run ab_mt 148 33 ls st w := E_goto rfl
theorem e_148_32 {ls : ab_L} {st : List Value} {w : ab_W} : ab_Run ab_mt 148 32 ls st w = ab_Run ab_mt 148 33 ls (.int (nI 0) :: st) w := E_push (n := 1) rfl
theorem e_148_33 {ls : ab_L} {st : List Value} {w : ab_W} {a : Nat} {x : Int32} (h : ab_isF 7 0 (w.2 a) = true) : ab_Run ab_mt 148 33 ls (.int x :: .ref a :: st) w = ab_Run ab_mt 148 36 ls st (w.1, ab_up w.2 a (ab_sf 0 (.int x) (w.2 a))) := E_put rfl h rfl
theorem e_148_36 {ls : ab_L} {st : List Value} {w : ab_W} (h : ab_isR (ls 0) = true) : ab_Run ab_mt 148 36 ls st w = ab_Run ab_mt 148 37 ls (ab_gv (ls 0) :: st) w := E_loadr (n := 1) rfl h
theorem e_148_37 {ls : ab_L} {st : List Value} {w : ab_W} {a : Nat} (h : ab_isF 7 0 (w.2 a) = true) : ab_Run ab_mt 148 37 ls (.ref a :: st) w = ab_Run ab_mt 148 40 ls (ab_fv 0 (w.2 a) :: st) w := E_get rfl h
theorem e_148_40 {ls : ab_L} {st : List Value} {w : ab_W} {x : Int32} : ab_Run ab_mt 148 40 ls (.int x :: st) w = if x ≤ 0 then ab_Run ab_mt 148 45 ls st w else ab_Run ab_mt 148 43 ls st w := E_if_le rfl
theorem e_148_43 {ls : ab_L} {st : List Value} {w : ab_W} : ab_Run ab_mt 148 43 ls st w = ab_Run ab_mt 148 44 ls (.int (nI 0) :: st) w := E_push (n := 1) rfl
theorem e_148_44 {ls : ab_L} {w : ab_W} {x : Int32} : ab_Run ab_mt 148 44 ls [.int x] w = some (.inl (some (.int x)), w) := E_reti rfl
theorem e_148_45 {ls : ab_L} {st : List Value} {w : ab_W} (h : ab_isR (ls 0) = true) : ab_Run ab_mt 148 45 ls st w = ab_Run ab_mt 148 46 ls (ab_gv (ls 0) :: st) w := E_loadr (n := 1) rfl h
theorem e_148_46 {ls : ab_L} {st : List Value} {w : ab_W} {a : Nat} (h : ab_isF 7 8 (w.2 a) = true) : ab_Run ab_mt 148 46 ls (.ref a :: st) w = ab_Run ab_mt 148 49 ls (ab_fv 8 (w.2 a) :: st) w := E_get rfl h
theorem e_148_49 {ls : ab_L} {st : List Value} {w : ab_W} (h : ab_isR (ls 0) = true) : ab_Run ab_mt 148 49 ls st w = ab_Run ab_mt 148 50 ls (ab_gv (ls 0) :: st) w := E_loadr (n := 1) rfl h
theorem e_148_50 {ls : ab_L} {st : List Value} {w : ab_W} {a : Nat} (h : ab_isF 7 7 (w.2 a) = true) : ab_Run ab_mt 148 50 ls (.ref a :: st) w = ab_Run ab_mt 148 53 ls (ab_fv 7 (w.2 a) :: st) w := E_get rfl h
theorem e_148_53 {ls : ab_L} {st : List Value} {w : ab_W} (h : ab_isI (ls 1) = true) : ab_Run ab_mt 148 53 ls st w = ab_Run ab_mt 148 54 ls (ab_gv (ls 1) :: st) w := E_loadi (n := 1) rfl h
theorem e_148_54 {ls : ab_L} {st : List Value} {w : ab_W} {a : Nat} {i x : Int32} (h : ab_inW i (w.2 a) = true) : ab_Run ab_mt 148 54 ls (.int x :: .int i :: .ref a :: st) w = ab_Run ab_mt 148 55 ls st (w.1, ab_up w.2 a (ab_sI i.toNatClampNeg x (w.2 a))) := E_iast rfl h
theorem e_148_55 {ls : ab_L} {st : List Value} {w : ab_W} (h : ab_isR (ls 0) = true) : ab_Run ab_mt 148 55 ls st w = ab_Run ab_mt 148 56 ls (ab_gv (ls 0) :: st) w := E_loadr (n := 1) rfl h
theorem e_148_56 {ls : ab_L} {st : List Value} {w : ab_W} {x : Nat} : ab_Run ab_mt 148 56 ls (.ref x :: st) w = ab_Run ab_mt 148 57 ls (.ref x :: .ref x :: st) w := E_dup_r rfl
theorem e_148_57 {ls : ab_L} {st : List Value} {w : ab_W} {a : Nat} (h : ab_isF 7 7 (w.2 a) = true) : ab_Run ab_mt 148 57 ls (.ref a :: st) w = ab_Run ab_mt 148 60 ls (ab_fv 7 (w.2 a) :: st) w := E_get rfl h
theorem e_148_60 {ls : ab_L} {st : List Value} {w : ab_W} : ab_Run ab_mt 148 60 ls st w = ab_Run ab_mt 148 61 ls (.int (nI 1) :: st) w := E_push (n := 1) rfl
theorem e_148_61 {ls : ab_L} {st : List Value} {w : ab_W} {x y : Int32} : ab_Run ab_mt 148 61 ls (.int y :: .int x :: st) w = ab_Run ab_mt 148 62 ls (.int (x + y) :: st) w := E_ib (f := fun x y => x + y) rfl
theorem e_148_62 {ls : ab_L} {st : List Value} {w : ab_W} {a : Nat} {x : Int32} (h : ab_isF 7 7 (w.2 a) = true) : ab_Run ab_mt 148 62 ls (.int x :: .ref a :: st) w = ab_Run ab_mt 148 65 ls st (w.1, ab_up w.2 a (ab_sf 7 (.int x) (w.2 a))) := E_put rfl h rfl
theorem e_148_65 {ls : ab_L} {st : List Value} {w : ab_W} (h : ab_isR (ls 0) = true) : ab_Run ab_mt 148 65 ls st w = ab_Run ab_mt 148 66 ls (ab_gv (ls 0) :: st) w := E_loadr (n := 1) rfl h
theorem e_148_66 {ls : ab_L} {st : List Value} {w : ab_W} {a : Nat} (h : ab_isF 7 7 (w.2 a) = true) : ab_Run ab_mt 148 66 ls (.ref a :: st) w = ab_Run ab_mt 148 69 ls (ab_fv 7 (w.2 a) :: st) w := E_get rfl h
theorem e_148_69 {ls : ab_L} {w : ab_W} {x : Int32} : ab_Run ab_mt 148 69 ls [.int x] w = some (.inl (some (.int x)), w) := E_reti rfl
theorem rv_148 {σ : ab_S} {t : Nat} {x0 : Int32} : ab_recv ab_mt 148 [.ref t, .int x0] σ = ab_isO 7 (σ t) := rfl
theorem e_149_0 {ls : ab_L} {st : List Value} {w : ab_W} (h : ab_isR (ls 0) = true) : ab_Run ab_mt 149 0 ls st w = ab_Run ab_mt 149 1 ls (ab_gv (ls 0) :: st) w := E_loadr (n := 1) rfl h
theorem e_149_1 {ls : ab_L} {st : List Value} {w : ab_W} : ab_Run ab_mt 149 1 ls st w = ab_Run ab_mt 149 2 ls (.int (nI 0) :: st) w := E_push (n := 1) rfl
theorem e_149_2 {ls : ab_L} {st : List Value} {w : ab_W} {a : Nat} {x : Int32} (h : ab_isF 7 0 (w.2 a) = true) : ab_Run ab_mt 149 2 ls (.int x :: .ref a :: st) w = ab_Run ab_mt 149 5 ls st (w.1, ab_up w.2 a (ab_sf 0 (.int x) (w.2 a))) := E_put rfl h rfl
theorem e_149_5 {ls : ab_L} {st : List Value} {w : ab_W} (h : ab_isR (ls 0) = true) : ab_Run ab_mt 149 5 ls st w = ab_Run ab_mt 149 6 ls (ab_gv (ls 0) :: st) w := E_loadr (n := 1) rfl h
theorem e_149_6 {ls : ab_L} {st : List Value} {w : ab_W} {a : Nat} (h : ab_isF 7 7 (w.2 a) = true) : ab_Run ab_mt 149 6 ls (.ref a :: st) w = ab_Run ab_mt 149 9 ls (ab_fv 7 (w.2 a) :: st) w := E_get rfl h
theorem e_149_9 {ls : ab_L} {st : List Value} {w : ab_W} {x : Int32} : ab_Run ab_mt 149 9 ls (.int x :: st) w = ab_Run ab_mt 149 10 (ab_l1 ls 1 (.int x)) st w := E_stori (n := 1) rfl
theorem e_149_10 {ls : ab_L} {st : List Value} {w : ab_W} (h : ab_isR (ls 0) = true) : ab_Run ab_mt 149 10 ls st w = ab_Run ab_mt 149 11 ls (ab_gv (ls 0) :: st) w := E_loadr (n := 1) rfl h
theorem e_149_11 {ls : ab_L} {st : List Value} {w : ab_W} : ab_Run ab_mt 149 11 ls st w = ab_Run ab_mt 149 12 ls (.int (nI 0) :: st) w := E_push (n := 1) rfl
theorem e_149_12 {ls : ab_L} {st : List Value} {w : ab_W} {a : Nat} {x : Int32} (h : ab_isF 7 7 (w.2 a) = true) : ab_Run ab_mt 149 12 ls (.int x :: .ref a :: st) w = ab_Run ab_mt 149 15 ls st (w.1, ab_up w.2 a (ab_sf 7 (.int x) (w.2 a))) := E_put rfl h rfl
theorem e_149_15 {ls : ab_L} {st : List Value} {w : ab_W} (h : ab_isI (ls 1) = true) : ab_Run ab_mt 149 15 ls st w = ab_Run ab_mt 149 16 ls (ab_gv (ls 1) :: st) w := E_loadi (n := 1) rfl h
theorem e_149_16 {ls : ab_L} {w : ab_W} {x : Int32} : ab_Run ab_mt 149 16 ls [.int x] w = some (.inl (some (.int x)), w) := E_reti rfl
theorem rv_149 {σ : ab_S} {t : Nat} : ab_recv ab_mt 149 [.ref t] σ = ab_isO 7 (σ t) := rfl
theorem e_150_0 {ls : ab_L} {st : List Value} {w : ab_W} (h : ab_isR (ls 0) = true) : ab_Run ab_mt 150 0 ls st w = ab_Run ab_mt 150 1 ls (ab_gv (ls 0) :: st) w := E_loadr (n := 1) rfl h
theorem e_150_1 {ls : ab_L} {st : List Value} {w : ab_W} {v0 : Value} (h1 : ab_recv ab_mt 146 [v0] w.2 = true) (h8 : ab_w8 st = true) : ab_Run ab_mt 150 1 ls (v0 :: st) w = ab_aft 146 150 1 ls st (ab_Cl 146 [v0] w) := E_call1 rfl h1 h8
theorem e_150_4 {ls : ab_L} {st : List Value} {w : ab_W} (h : ab_isR (ls 0) = true) : ab_Run ab_mt 150 4 ls st w = ab_Run ab_mt 150 5 ls (ab_gv (ls 0) :: st) w := E_loadr (n := 1) rfl h
theorem e_150_5 {ls : ab_L} {st : List Value} {w : ab_W} {a : Nat} (h : ab_isF 7 7 (w.2 a) = true) : ab_Run ab_mt 150 5 ls (.ref a :: st) w = ab_Run ab_mt 150 8 ls (ab_fv 7 (w.2 a) :: st) w := E_get rfl h
theorem e_150_8 {ls : ab_L} {st : List Value} {w : ab_W} {x y : Int32} : ab_Run ab_mt 150 8 ls (.int y :: .int x :: st) w = if x = y then ab_Run ab_mt 150 11 ls st w else ab_Run ab_mt 150 22 ls st w := E_ic_ne rfl
theorem e_150_11 {ls : ab_L} {st : List Value} {w : ab_W} (h : ab_isR (ls 0) = true) : ab_Run ab_mt 150 11 ls st w = ab_Run ab_mt 150 12 ls (ab_gv (ls 0) :: st) w := E_loadr (n := 1) rfl h
theorem e_150_12 {ls : ab_L} {st : List Value} {w : ab_W} {v0 : Value} (h1 : ab_recv ab_mt 142 [v0] w.2 = true) (h8 : ab_w8 st = true) : ab_Run ab_mt 150 12 ls (v0 :: st) w = ab_aft 142 150 12 ls st (ab_Cl 142 [v0] w) := E_call1 rfl h1 h8
theorem e_150_15 {ls : ab_L} {st : List Value} {w : ab_W} {x : Int32} : ab_Run ab_mt 150 15 ls (.int x :: st) w = if x = 0 then ab_Run ab_mt 150 22 ls st w else ab_Run ab_mt 150 18 ls st w := E_if_eq rfl
theorem e_150_18 {ls : ab_L} {st : List Value} {w : ab_W} : ab_Run ab_mt 150 18 ls st w = ab_Run ab_mt 150 19 ls (.int (nI 1) :: st) w := E_push (n := 1) rfl
theorem e_150_19 {ls : ab_L} {st : List Value} {w : ab_W} : ab_Run ab_mt 150 19 ls st w = ab_Run ab_mt 150 23 ls st w := E_goto rfl
theorem e_150_22 {ls : ab_L} {st : List Value} {w : ab_W} : ab_Run ab_mt 150 22 ls st w = ab_Run ab_mt 150 23 ls (.int (nI 0) :: st) w := E_push (n := 1) rfl
theorem e_150_23 {ls : ab_L} {st : List Value} {w : ab_W} {x : Int32} : ab_Run ab_mt 150 23 ls (.int x :: st) w = ab_Run ab_mt 150 24 (ab_l1 ls 1 (.int x)) st w := E_stori (n := 1) rfl
theorem e_150_24 {ls : ab_L} {st : List Value} {w : ab_W} (h : ab_isR (ls 0) = true) : ab_Run ab_mt 150 24 ls st w = ab_Run ab_mt 150 25 ls (ab_gv (ls 0) :: st) w := E_loadr (n := 1) rfl h
theorem e_150_25 {ls : ab_L} {st : List Value} {w : ab_W} (h : ab_isI (ls 1) = true) : ab_Run ab_mt 150 25 ls st w = ab_Run ab_mt 150 26 ls (ab_gv (ls 1) :: st) w := E_loadi (n := 1) rfl h
theorem e_150_26 {ls : ab_L} {st : List Value} {w : ab_W} {x : Int32} : ab_Run ab_mt 150 26 ls (.int x :: st) w = if x = 0 then ab_Run ab_mt 150 29 ls st w else ab_Run ab_mt 150 33 ls st w := E_if_ne rfl
theorem e_150_29 {ls : ab_L} {st : List Value} {w : ab_W} : ab_Run ab_mt 150 29 ls st w = ab_Run ab_mt 150 30 ls (.int (nI 1) :: st) w := E_push (n := 1) rfl
theorem e_150_30 {ls : ab_L} {st : List Value} {w : ab_W} : ab_Run ab_mt 150 30 ls st w = ab_Run ab_mt 150 61 ls st w := E_goto rfl
theorem e_150_33 {ls : ab_L} {st : List Value} {w : ab_W} (h : ab_isR (ls 0) = true) : ab_Run ab_mt 150 33 ls st w = ab_Run ab_mt 150 34 ls (ab_gv (ls 0) :: st) w := E_loadr (n := 1) rfl h
theorem e_150_34 {ls : ab_L} {st : List Value} {w : ab_W} {a : Nat} (h : ab_isF 7 9 (w.2 a) = true) : ab_Run ab_mt 150 34 ls (.ref a :: st) w = ab_Run ab_mt 150 37 ls (ab_fv 9 (w.2 a) :: st) w := E_get rfl h
theorem e_150_37 {ls : ab_L} {st : List Value} {w : ab_W} {x : Int32} : ab_Run ab_mt 150 37 ls (.int x :: st) w = if x = 0 then ab_Run ab_mt 150 40 ls st w else ab_Run ab_mt 150 56 ls st w := E_if_ne rfl
theorem e_150_40 {ls : ab_L} {st : List Value} {w : ab_W} (h : ab_isR (ls 0) = true) : ab_Run ab_mt 150 40 ls st w = ab_Run ab_mt 150 41 ls (ab_gv (ls 0) :: st) w := E_loadr (n := 1) rfl h
theorem e_150_41 {ls : ab_L} {st : List Value} {w : ab_W} {v0 : Value} (h1 : ab_recv ab_mt 108 [v0] w.2 = true) (h8 : ab_w8 st = true) : ab_Run ab_mt 150 41 ls (v0 :: st) w = ab_aft 108 150 41 ls st (ab_Cl 108 [v0] w) := E_call1 rfl h1 h8
theorem e_150_44 {ls : ab_L} {st : List Value} {w : ab_W} (h : ab_isR (ls 0) = true) : ab_Run ab_mt 150 44 ls st w = ab_Run ab_mt 150 45 ls (ab_gv (ls 0) :: st) w := E_loadr (n := 1) rfl h
theorem e_150_45 {ls : ab_L} {st : List Value} {w : ab_W} {a : Nat} (h : ab_isF 7 18 (w.2 a) = true) : ab_Run ab_mt 150 45 ls (.ref a :: st) w = ab_Run ab_mt 150 48 ls (ab_fv 18 (w.2 a) :: st) w := E_get rfl h
theorem e_150_48 {ls : ab_L} {st : List Value} {w : ab_W} {x y : Int32} : ab_Run ab_mt 150 48 ls (.int y :: .int x :: st) w = ab_Run ab_mt 150 49 ls (.int (x + y) :: st) w := E_ib (f := fun x y => x + y) rfl
theorem e_150_49 {ls : ab_L} {st : List Value} {w : ab_W} : ab_Run ab_mt 150 49 ls st w = ab_Run ab_mt 150 50 ls (.int (nI 1) :: st) w := E_push (n := 1) rfl
theorem e_150_50 {ls : ab_L} {st : List Value} {w : ab_W} {x y : Int32} : ab_Run ab_mt 150 50 ls (.int y :: .int x :: st) w = ab_Run ab_mt 150 51 ls (.int (x + y) :: st) w := E_ib (f := fun x y => x + y) rfl
theorem e_150_51 {ls : ab_L} {st : List Value} {w : ab_W} : ab_Run ab_mt 150 51 ls st w = ab_Run ab_mt 150 53 ls (.int (nI 24) :: st) w := E_push (n := 2) rfl
theorem e_150_53 {ls : ab_L} {st : List Value} {w : ab_W} {x y : Int32} : ab_Run ab_mt 150 53 ls (.int y :: .int x :: st) w = if x ≤ y then ab_Run ab_mt 150 60 ls st w else ab_Run ab_mt 150 56 ls st w := E_ic_le rfl
theorem e_150_56 {ls : ab_L} {st : List Value} {w : ab_W} : ab_Run ab_mt 150 56 ls st w = ab_Run ab_mt 150 57 ls (.int (nI 2) :: st) w := E_push (n := 1) rfl
theorem e_150_57 {ls : ab_L} {st : List Value} {w : ab_W} : ab_Run ab_mt 150 57 ls st w = ab_Run ab_mt 150 61 ls st w := E_goto rfl
theorem e_150_60 {ls : ab_L} {st : List Value} {w : ab_W} : ab_Run ab_mt 150 60 ls st w = ab_Run ab_mt 150 61 ls (.int (nI 0) :: st) w := E_push (n := 1) rfl
theorem e_150_61 {ls : ab_L} {st : List Value} {w : ab_W} {a : Nat} {x : Int32} (h : ab_isF 7 0 (w.2 a) = true) : ab_Run ab_mt 150 61 ls (.int x :: .ref a :: st) w = ab_Run ab_mt 150 64 ls st (w.1, ab_up w.2 a (ab_sf 0 (.int x) (w.2 a))) := E_put rfl h rfl
theorem e_150_64 {ls : ab_L} {st : List Value} {w : ab_W} (h : ab_isR (ls 0) = true) : ab_Run ab_mt 150 64 ls st w = ab_Run ab_mt 150 65 ls (ab_gv (ls 0) :: st) w := E_loadr (n := 1) rfl h
theorem e_150_65 {ls : ab_L} {st : List Value} {w : ab_W} {a : Nat} (h : ab_isF 7 0 (w.2 a) = true) : ab_Run ab_mt 150 65 ls (.ref a :: st) w = ab_Run ab_mt 150 68 ls (ab_fv 0 (w.2 a) :: st) w := E_get rfl h
theorem e_150_68 {ls : ab_L} {st : List Value} {w : ab_W} {x : Int32} : ab_Run ab_mt 150 68 ls (.int x :: st) w = if x ≤ 0 then ab_Run ab_mt 150 73 ls st w else ab_Run ab_mt 150 71 ls st w := E_if_le rfl
theorem e_150_71 {ls : ab_L} {st : List Value} {w : ab_W} : ab_Run ab_mt 150 71 ls st w = ab_Run ab_mt 150 72 ls (.int (nI 0) :: st) w := E_push (n := 1) rfl
theorem e_150_72 {ls : ab_L} {w : ab_W} {x : Int32} : ab_Run ab_mt 150 72 ls [.int x] w = some (.inl (some (.int x)), w) := E_reti rfl
theorem e_150_73 {ls : ab_L} {st : List Value} {w : ab_W} (h : ab_isR (ls 0) = true) : ab_Run ab_mt 150 73 ls st w = ab_Run ab_mt 150 74 ls (ab_gv (ls 0) :: st) w := E_loadr (n := 1) rfl h
theorem e_150_74 {ls : ab_L} {st : List Value} {w : ab_W} {v0 : Value} (h1 : ab_recv ab_mt 117 [v0] w.2 = true) (h8 : ab_w8 st = true) : ab_Run ab_mt 150 74 ls (v0 :: st) w = ab_aft 117 150 74 ls st (ab_Cl 117 [v0] w) := E_call1 rfl h1 h8
theorem e_150_77 {ls : ab_L} {st : List Value} {w : ab_W} : ab_Run ab_mt 150 77 ls st w = ab_Run ab_mt 150 78 ls (.int (nI 0) :: st) w := E_push (n := 1) rfl
theorem e_150_78 {ls : ab_L} {st : List Value} {w : ab_W} {x : Int32} : ab_Run ab_mt 150 78 ls (.int x :: st) w = ab_Run ab_mt 150 79 (ab_l1 ls 2 (.int x)) st w := E_stori (n := 1) rfl
theorem e_150_79 {ls : ab_L} {st : List Value} {w : ab_W} (h : ab_isI (ls 2) = true) : ab_Run ab_mt 150 79 ls st w = ab_Run ab_mt 150 80 ls (ab_gv (ls 2) :: st) w := E_loadi (n := 1) rfl h
theorem e_150_80 {ls : ab_L} {st : List Value} {w : ab_W} (h : ab_isR (ls 0) = true) : ab_Run ab_mt 150 80 ls st w = ab_Run ab_mt 150 81 ls (ab_gv (ls 0) :: st) w := E_loadr (n := 1) rfl h
theorem e_150_81 {ls : ab_L} {st : List Value} {w : ab_W} {a : Nat} (h : ab_isF 7 18 (w.2 a) = true) : ab_Run ab_mt 150 81 ls (.ref a :: st) w = ab_Run ab_mt 150 84 ls (ab_fv 18 (w.2 a) :: st) w := E_get rfl h
theorem e_150_84 {ls : ab_L} {st : List Value} {w : ab_W} {x y : Int32} : ab_Run ab_mt 150 84 ls (.int y :: .int x :: st) w = if y < x then ab_Run ab_mt 150 135 ls st w else ab_Run ab_mt 150 87 ls st w := E_ic_gt rfl
theorem e_150_87 {ls : ab_L} {st : List Value} {w : ab_W} (h : ab_isR (ls 0) = true) : ab_Run ab_mt 150 87 ls st w = ab_Run ab_mt 150 88 ls (ab_gv (ls 0) :: st) w := E_loadr (n := 1) rfl h
theorem e_150_88 {ls : ab_L} {st : List Value} {w : ab_W} (h : ab_isR (ls 0) = true) : ab_Run ab_mt 150 88 ls st w = ab_Run ab_mt 150 89 ls (ab_gv (ls 0) :: st) w := E_loadr (n := 1) rfl h
theorem e_150_89 {ls : ab_L} {st : List Value} {w : ab_W} {a : Nat} (h : ab_isF 7 19 (w.2 a) = true) : ab_Run ab_mt 150 89 ls (.ref a :: st) w = ab_Run ab_mt 150 92 ls (ab_fv 19 (w.2 a) :: st) w := E_get rfl h
theorem e_150_92 {ls : ab_L} {st : List Value} {w : ab_W} : ab_Run ab_mt 150 92 ls st w = ab_Run ab_mt 150 93 ls (.int (nI 4) :: st) w := E_push (n := 1) rfl
theorem e_150_93 {ls : ab_L} {st : List Value} {w : ab_W} (h : ab_isI (ls 2) = true) : ab_Run ab_mt 150 93 ls st w = ab_Run ab_mt 150 94 ls (ab_gv (ls 2) :: st) w := E_loadi (n := 1) rfl h
theorem e_150_94 {ls : ab_L} {st : List Value} {w : ab_W} {x y : Int32} : ab_Run ab_mt 150 94 ls (.int y :: .int x :: st) w = ab_Run ab_mt 150 95 ls (.int (x * y) :: st) w := E_ib (f := fun x y => x * y) rfl
theorem e_150_95 {ls : ab_L} {st : List Value} {w : ab_W} {a : Nat} {i : Int32} (h : ab_inI i (w.2 a) = true) : ab_Run ab_mt 150 95 ls (.int i :: .ref a :: st) w = ab_Run ab_mt 150 96 ls (.int (ab_aI i.toNatClampNeg (w.2 a)) :: st) w := E_iald rfl h
theorem e_150_96 {ls : ab_L} {st : List Value} {w : ab_W} (h : ab_isR (ls 0) = true) : ab_Run ab_mt 150 96 ls st w = ab_Run ab_mt 150 97 ls (ab_gv (ls 0) :: st) w := E_loadr (n := 1) rfl h
theorem e_150_97 {ls : ab_L} {st : List Value} {w : ab_W} {a : Nat} (h : ab_isF 7 19 (w.2 a) = true) : ab_Run ab_mt 150 97 ls (.ref a :: st) w = ab_Run ab_mt 150 100 ls (ab_fv 19 (w.2 a) :: st) w := E_get rfl h
theorem e_150_100 {ls : ab_L} {st : List Value} {w : ab_W} : ab_Run ab_mt 150 100 ls st w = ab_Run ab_mt 150 101 ls (.int (nI 4) :: st) w := E_push (n := 1) rfl
theorem e_150_101 {ls : ab_L} {st : List Value} {w : ab_W} (h : ab_isI (ls 2) = true) : ab_Run ab_mt 150 101 ls st w = ab_Run ab_mt 150 102 ls (ab_gv (ls 2) :: st) w := E_loadi (n := 1) rfl h
theorem e_150_102 {ls : ab_L} {st : List Value} {w : ab_W} {x y : Int32} : ab_Run ab_mt 150 102 ls (.int y :: .int x :: st) w = ab_Run ab_mt 150 103 ls (.int (x * y) :: st) w := E_ib (f := fun x y => x * y) rfl
theorem e_150_103 {ls : ab_L} {st : List Value} {w : ab_W} : ab_Run ab_mt 150 103 ls st w = ab_Run ab_mt 150 104 ls (.int (nI 1) :: st) w := E_push (n := 1) rfl
theorem e_150_104 {ls : ab_L} {st : List Value} {w : ab_W} {x y : Int32} : ab_Run ab_mt 150 104 ls (.int y :: .int x :: st) w = ab_Run ab_mt 150 105 ls (.int (x + y) :: st) w := E_ib (f := fun x y => x + y) rfl
theorem e_150_105 {ls : ab_L} {st : List Value} {w : ab_W} {a : Nat} {i : Int32} (h : ab_inI i (w.2 a) = true) : ab_Run ab_mt 150 105 ls (.int i :: .ref a :: st) w = ab_Run ab_mt 150 106 ls (.int (ab_aI i.toNatClampNeg (w.2 a)) :: st) w := E_iald rfl h
theorem e_150_106 {ls : ab_L} {st : List Value} {w : ab_W} (h : ab_isR (ls 0) = true) : ab_Run ab_mt 150 106 ls st w = ab_Run ab_mt 150 107 ls (ab_gv (ls 0) :: st) w := E_loadr (n := 1) rfl h
theorem e_150_107 {ls : ab_L} {st : List Value} {w : ab_W} {a : Nat} (h : ab_isF 7 19 (w.2 a) = true) : ab_Run ab_mt 150 107 ls (.ref a :: st) w = ab_Run ab_mt 150 110 ls (ab_fv 19 (w.2 a) :: st) w := E_get rfl h
theorem e_150_110 {ls : ab_L} {st : List Value} {w : ab_W} : ab_Run ab_mt 150 110 ls st w = ab_Run ab_mt 150 111 ls (.int (nI 4) :: st) w := E_push (n := 1) rfl
theorem e_150_111 {ls : ab_L} {st : List Value} {w : ab_W} (h : ab_isI (ls 2) = true) : ab_Run ab_mt 150 111 ls st w = ab_Run ab_mt 150 112 ls (ab_gv (ls 2) :: st) w := E_loadi (n := 1) rfl h
theorem e_150_112 {ls : ab_L} {st : List Value} {w : ab_W} {x y : Int32} : ab_Run ab_mt 150 112 ls (.int y :: .int x :: st) w = ab_Run ab_mt 150 113 ls (.int (x * y) :: st) w := E_ib (f := fun x y => x * y) rfl
theorem e_150_113 {ls : ab_L} {st : List Value} {w : ab_W} : ab_Run ab_mt 150 113 ls st w = ab_Run ab_mt 150 114 ls (.int (nI 2) :: st) w := E_push (n := 1) rfl
theorem e_150_114 {ls : ab_L} {st : List Value} {w : ab_W} {x y : Int32} : ab_Run ab_mt 150 114 ls (.int y :: .int x :: st) w = ab_Run ab_mt 150 115 ls (.int (x + y) :: st) w := E_ib (f := fun x y => x + y) rfl
theorem e_150_115 {ls : ab_L} {st : List Value} {w : ab_W} {a : Nat} {i : Int32} (h : ab_inI i (w.2 a) = true) : ab_Run ab_mt 150 115 ls (.int i :: .ref a :: st) w = ab_Run ab_mt 150 116 ls (.int (ab_aI i.toNatClampNeg (w.2 a)) :: st) w := E_iald rfl h
theorem e_150_116 {ls : ab_L} {st : List Value} {w : ab_W} (h : ab_isR (ls 0) = true) : ab_Run ab_mt 150 116 ls st w = ab_Run ab_mt 150 117 ls (ab_gv (ls 0) :: st) w := E_loadr (n := 1) rfl h
theorem e_150_117 {ls : ab_L} {st : List Value} {w : ab_W} {a : Nat} (h : ab_isF 7 19 (w.2 a) = true) : ab_Run ab_mt 150 117 ls (.ref a :: st) w = ab_Run ab_mt 150 120 ls (ab_fv 19 (w.2 a) :: st) w := E_get rfl h
theorem e_150_120 {ls : ab_L} {st : List Value} {w : ab_W} : ab_Run ab_mt 150 120 ls st w = ab_Run ab_mt 150 121 ls (.int (nI 4) :: st) w := E_push (n := 1) rfl
theorem e_150_121 {ls : ab_L} {st : List Value} {w : ab_W} (h : ab_isI (ls 2) = true) : ab_Run ab_mt 150 121 ls st w = ab_Run ab_mt 150 122 ls (ab_gv (ls 2) :: st) w := E_loadi (n := 1) rfl h
theorem e_150_122 {ls : ab_L} {st : List Value} {w : ab_W} {x y : Int32} : ab_Run ab_mt 150 122 ls (.int y :: .int x :: st) w = ab_Run ab_mt 150 123 ls (.int (x * y) :: st) w := E_ib (f := fun x y => x * y) rfl
theorem e_150_123 {ls : ab_L} {st : List Value} {w : ab_W} : ab_Run ab_mt 150 123 ls st w = ab_Run ab_mt 150 124 ls (.int (nI 3) :: st) w := E_push (n := 1) rfl
theorem e_150_124 {ls : ab_L} {st : List Value} {w : ab_W} {x y : Int32} : ab_Run ab_mt 150 124 ls (.int y :: .int x :: st) w = ab_Run ab_mt 150 125 ls (.int (x + y) :: st) w := E_ib (f := fun x y => x + y) rfl
theorem e_150_125 {ls : ab_L} {st : List Value} {w : ab_W} {a : Nat} {i : Int32} (h : ab_inI i (w.2 a) = true) : ab_Run ab_mt 150 125 ls (.int i :: .ref a :: st) w = ab_Run ab_mt 150 126 ls (.int (ab_aI i.toNatClampNeg (w.2 a)) :: st) w := E_iald rfl h
theorem e_150_126 {ls : ab_L} {st : List Value} {w : ab_W} {v0 v1 v2 v3 v4 : Value} (h1 : ab_recv ab_mt 128 [v0, v1, v2, v3, v4] w.2 = true) (h8 : ab_w8 st = true) : ab_Run ab_mt 150 126 ls (v4 :: v3 :: v2 :: v1 :: v0 :: st) w = ab_aft 128 150 126 ls st (ab_Cl 128 [v0, v1, v2, v3, v4] w) := E_call5 rfl h1 h8
theorem e_150_129 {ls : ab_L} {st : List Value} {w : ab_W} (h : ab_isI (ls 2) = true) : ab_Run ab_mt 150 129 ls st w = ab_Run ab_mt 150 132 (ab_l1 ls 2 (.int (ab_gi (ls 2) + (nI 1)))) st w := E_iinc rfl h
theorem e_150_132 {ls : ab_L} {st : List Value} {w : ab_W} : ab_Run ab_mt 150 132 ls st w = ab_Run ab_mt 150 79 ls st w := E_goto rfl
theorem e_150_135 {ls : ab_L} {st : List Value} {w : ab_W} (h : ab_isR (ls 0) = true) : ab_Run ab_mt 150 135 ls st w = ab_Run ab_mt 150 136 ls (ab_gv (ls 0) :: st) w := E_loadr (n := 1) rfl h
theorem e_150_136 {ls : ab_L} {st : List Value} {w : ab_W} : ab_Run ab_mt 150 136 ls st w = ab_Run ab_mt 150 137 ls (.int (nI 0) :: st) w := E_push (n := 1) rfl
theorem e_150_137 {ls : ab_L} {st : List Value} {w : ab_W} {a : Nat} {x : Int32} (h : ab_isF 7 7 (w.2 a) = true) : ab_Run ab_mt 150 137 ls (.int x :: .ref a :: st) w = ab_Run ab_mt 150 140 ls st (w.1, ab_up w.2 a (ab_sf 7 (.int x) (w.2 a))) := E_put rfl h rfl
theorem e_150_140 {ls : ab_L} {st : List Value} {w : ab_W} (h : ab_isR (ls 0) = true) : ab_Run ab_mt 150 140 ls st w = ab_Run ab_mt 150 141 ls (ab_gv (ls 0) :: st) w := E_loadr (n := 1) rfl h
theorem e_150_141 {ls : ab_L} {st : List Value} {w : ab_W} {v0 : Value} (h1 : ab_recv ab_mt 108 [v0] w.2 = true) (h8 : ab_w8 st = true) : ab_Run ab_mt 150 141 ls (v0 :: st) w = ab_aft 108 150 141 ls st (ab_Cl 108 [v0] w) := E_call1 rfl h1 h8
theorem e_150_144 {ls : ab_L} {w : ab_W} {x : Int32} : ab_Run ab_mt 150 144 ls [.int x] w = some (.inl (some (.int x)), w) := E_reti rfl
theorem rv_150 {σ : ab_S} {t : Nat} : ab_recv ab_mt 150 [.ref t] σ = ab_isO 7 (σ t) := rfl
theorem e_151_0 {ls : ab_L} {st : List Value} {w : ab_W} (h : ab_isR (ls 0) = true) : ab_Run ab_mt 151 0 ls st w = ab_Run ab_mt 151 1 ls (ab_gv (ls 0) :: st) w := E_loadr (n := 1) rfl h
theorem e_151_1 {ls : ab_L} {st : List Value} {w : ab_W} (h : ab_isR (ls 0) = true) : ab_Run ab_mt 151 1 ls st w = ab_Run ab_mt 151 2 ls (ab_gv (ls 0) :: st) w := E_loadr (n := 1) rfl h
theorem e_151_2 {ls : ab_L} {st : List Value} {w : ab_W} {a : Nat} (h : ab_isF 7 9 (w.2 a) = true) : ab_Run ab_mt 151 2 ls (.ref a :: st) w = ab_Run ab_mt 151 5 ls (ab_fv 9 (w.2 a) :: st) w := E_get rfl h
theorem e_151_5 {ls : ab_L} {st : List Value} {w : ab_W} {x : Int32} : ab_Run ab_mt 151 5 ls (.int x :: st) w = if x = 0 then ab_Run ab_mt 151 8 ls st w else ab_Run ab_mt 151 15 ls st w := E_if_ne rfl
theorem e_151_8 {ls : ab_L} {st : List Value} {w : ab_W} (h : ab_isR (ls 0) = true) : ab_Run ab_mt 151 8 ls st w = ab_Run ab_mt 151 9 ls (ab_gv (ls 0) :: st) w := E_loadr (n := 1) rfl h
theorem e_151_9 {ls : ab_L} {st : List Value} {w : ab_W} {a : Nat} (h : ab_isF 7 3 (w.2 a) = true) : ab_Run ab_mt 151 9 ls (.ref a :: st) w = ab_Run ab_mt 151 12 ls (ab_fv 3 (w.2 a) :: st) w := E_get rfl h
theorem e_151_12 {ls : ab_L} {st : List Value} {w : ab_W} {x : Int32} : ab_Run ab_mt 151 12 ls (.int x :: st) w = if x = 0 then ab_Run ab_mt 151 15 ls st w else ab_Run ab_mt 151 19 ls st w := E_if_ne rfl
theorem e_151_15 {ls : ab_L} {st : List Value} {w : ab_W} : ab_Run ab_mt 151 15 ls st w = ab_Run ab_mt 151 16 ls (.int (nI 1) :: st) w := E_push (n := 1) rfl
theorem e_151_16 {ls : ab_L} {st : List Value} {w : ab_W} : ab_Run ab_mt 151 16 ls st w = ab_Run ab_mt 151 20 ls st w := E_goto rfl
theorem e_151_19 {ls : ab_L} {st : List Value} {w : ab_W} : ab_Run ab_mt 151 19 ls st w = ab_Run ab_mt 151 20 ls (.int (nI 0) :: st) w := E_push (n := 1) rfl
theorem e_151_20 {ls : ab_L} {st : List Value} {w : ab_W} {a : Nat} {x : Int32} (h : ab_isF 7 0 (w.2 a) = true) : ab_Run ab_mt 151 20 ls (.int x :: .ref a :: st) w = ab_Run ab_mt 151 23 ls st (w.1, ab_up w.2 a (ab_sf 0 (.int x) (w.2 a))) := E_put rfl h rfl
theorem e_151_23 {ls : ab_L} {st : List Value} {w : ab_W} (h : ab_isR (ls 0) = true) : ab_Run ab_mt 151 23 ls st w = ab_Run ab_mt 151 24 ls (ab_gv (ls 0) :: st) w := E_loadr (n := 1) rfl h
theorem e_151_24 {ls : ab_L} {st : List Value} {w : ab_W} {a : Nat} (h : ab_isF 7 0 (w.2 a) = true) : ab_Run ab_mt 151 24 ls (.ref a :: st) w = ab_Run ab_mt 151 27 ls (ab_fv 0 (w.2 a) :: st) w := E_get rfl h
theorem e_151_27 {ls : ab_L} {st : List Value} {w : ab_W} {x : Int32} : ab_Run ab_mt 151 27 ls (.int x :: st) w = if x ≤ 0 then ab_Run ab_mt 151 32 ls st w else ab_Run ab_mt 151 30 ls st w := E_if_le rfl
theorem e_151_30 {ls : ab_L} {st : List Value} {w : ab_W} : ab_Run ab_mt 151 30 ls st w = ab_Run ab_mt 151 31 ls (.int (nI 0) :: st) w := E_push (n := 1) rfl
theorem e_151_31 {ls : ab_L} {w : ab_W} {x : Int32} : ab_Run ab_mt 151 31 ls [.int x] w = some (.inl (some (.int x)), w) := E_reti rfl
theorem e_151_32 {ls : ab_L} {st : List Value} {w : ab_W} (h : ab_isR (ls 0) = true) : ab_Run ab_mt 151 32 ls st w = ab_Run ab_mt 151 33 ls (ab_gv (ls 0) :: st) w := E_loadr (n := 1) rfl h
theorem e_151_33 {ls : ab_L} {st : List Value} {w : ab_W} {x : Nat} : ab_Run ab_mt 151 33 ls (.ref x :: st) w = ab_Run ab_mt 151 34 ls (.ref x :: .ref x :: st) w := E_dup_r rfl
theorem e_151_34 {ls : ab_L} {st : List Value} {w : ab_W} {a : Nat} (h : ab_isF 7 3 (w.2 a) = true) : ab_Run ab_mt 151 34 ls (.ref a :: st) w = ab_Run ab_mt 151 37 ls (ab_fv 3 (w.2 a) :: st) w := E_get rfl h
theorem e_151_37 {ls : ab_L} {st : List Value} {w : ab_W} : ab_Run ab_mt 151 37 ls st w = ab_Run ab_mt 151 38 ls (.int (nI 1) :: st) w := E_push (n := 1) rfl
theorem e_151_38 {ls : ab_L} {st : List Value} {w : ab_W} {x y : Int32} : ab_Run ab_mt 151 38 ls (.int y :: .int x :: st) w = ab_Run ab_mt 151 39 ls (.int (x - y) :: st) w := E_ib (f := fun x y => x - y) rfl
theorem e_151_39 {ls : ab_L} {st : List Value} {w : ab_W} {a : Nat} {x : Int32} (h : ab_isF 7 3 (w.2 a) = true) : ab_Run ab_mt 151 39 ls (.int x :: .ref a :: st) w = ab_Run ab_mt 151 42 ls st (w.1, ab_up w.2 a (ab_sf 3 (.int x) (w.2 a))) := E_put rfl h rfl
theorem e_151_42 {ls : ab_L} {st : List Value} {w : ab_W} (h : ab_isR (ls 0) = true) : ab_Run ab_mt 151 42 ls st w = ab_Run ab_mt 151 43 ls (ab_gv (ls 0) :: st) w := E_loadr (n := 1) rfl h
theorem e_151_43 {ls : ab_L} {st : List Value} {w : ab_W} (h : ab_isR (ls 0) = true) : ab_Run ab_mt 151 43 ls st w = ab_Run ab_mt 151 44 ls (ab_gv (ls 0) :: st) w := E_loadr (n := 1) rfl h
theorem e_151_44 {ls : ab_L} {st : List Value} {w : ab_W} {a : Nat} (h : ab_isF 7 4 (w.2 a) = true) : ab_Run ab_mt 151 44 ls (.ref a :: st) w = ab_Run ab_mt 151 47 ls (ab_fv 4 (w.2 a) :: st) w := E_get rfl h
theorem e_151_47 {ls : ab_L} {st : List Value} {w : ab_W} : ab_Run ab_mt 151 47 ls st w = ab_Run ab_mt 151 50 ls (.int (nI 193) :: st) w := E_push (n := 3) rfl
theorem e_151_50 {ls : ab_L} {st : List Value} {w : ab_W} (h : ab_isR (ls 0) = true) : ab_Run ab_mt 151 50 ls st w = ab_Run ab_mt 151 51 ls (ab_gv (ls 0) :: st) w := E_loadr (n := 1) rfl h
theorem e_151_51 {ls : ab_L} {st : List Value} {w : ab_W} {a : Nat} (h : ab_isF 7 3 (w.2 a) = true) : ab_Run ab_mt 151 51 ls (.ref a :: st) w = ab_Run ab_mt 151 54 ls (ab_fv 3 (w.2 a) :: st) w := E_get rfl h
theorem e_151_54 {ls : ab_L} {st : List Value} {w : ab_W} {x y : Int32} : ab_Run ab_mt 151 54 ls (.int y :: .int x :: st) w = ab_Run ab_mt 151 55 ls (.int (x * y) :: st) w := E_ib (f := fun x y => x * y) rfl
theorem e_151_55 {ls : ab_L} {st : List Value} {w : ab_W} (h : ab_isR (ls 0) = true) : ab_Run ab_mt 151 55 ls st w = ab_Run ab_mt 151 56 ls (ab_gv (ls 0) :: st) w := E_loadr (n := 1) rfl h
theorem e_151_56 {ls : ab_L} {st : List Value} {w : ab_W} {a : Nat} (h : ab_isF 7 1 (w.2 a) = true) : ab_Run ab_mt 151 56 ls (.ref a :: st) w = ab_Run ab_mt 151 59 ls (ab_fv 1 (w.2 a) :: st) w := E_get rfl h
theorem e_151_59 {ls : ab_L} {st : List Value} {w : ab_W} : ab_Run ab_mt 151 59 ls st w = ab_Run ab_mt 151 60 ls (.int (nI 0) :: st) w := E_push (n := 1) rfl
theorem e_151_60 {ls : ab_L} {st : List Value} {w : ab_W} {v0 v1 v2 v3 v4 : Value} (h1 : ab_recv ab_mt 116 [v0, v1, v2, v3, v4] w.2 = true) (h8 : ab_w8 st = true) : ab_Run ab_mt 151 60 ls (v4 :: v3 :: v2 :: v1 :: v0 :: st) w = ab_aft 116 151 60 ls st (ab_Cl 116 [v0, v1, v2, v3, v4] w) := E_call5 rfl h1 h8
theorem e_151_63 {ls : ab_L} {st : List Value} {w : ab_W} (h : ab_isR (ls 0) = true) : ab_Run ab_mt 151 63 ls st w = ab_Run ab_mt 151 64 ls (ab_gv (ls 0) :: st) w := E_loadr (n := 1) rfl h
theorem e_151_64 {ls : ab_L} {st : List Value} {w : ab_W} {a : Nat} (h : ab_isF 7 3 (w.2 a) = true) : ab_Run ab_mt 151 64 ls (.ref a :: st) w = ab_Run ab_mt 151 67 ls (ab_fv 3 (w.2 a) :: st) w := E_get rfl h
theorem e_151_67 {ls : ab_L} {w : ab_W} {x : Int32} : ab_Run ab_mt 151 67 ls [.int x] w = some (.inl (some (.int x)), w) := E_reti rfl
theorem rv_151 {σ : ab_S} {t : Nat} : ab_recv ab_mt 151 [.ref t] σ = ab_isO 7 (σ t) := rfl
theorem e_152_0 {ls : ab_L} {st : List Value} {w : ab_W} (h : ab_isI (ls 0) = true) : ab_Run ab_mt 152 0 ls st w = ab_Run ab_mt 152 1 ls (ab_gv (ls 0) :: st) w := E_loadi (n := 1) rfl h
theorem e_152_1 {ls : ab_L} {st : List Value} {w : ab_W} {x : Int32} : ab_Run ab_mt 152 1 ls (.int x :: st) w = ab_Run ab_mt 152 2 ls (.long x.toInt64 :: st) w := E_i2l rfl
theorem e_152_2 {ls : ab_L} {st : List Value} {w : ab_W} : ab_Run ab_mt 152 2 ls st w = ab_Run ab_mt 152 3 ls (.long (lN 0) :: st) w := E_push (n := 1) rfl
theorem e_152_3 {ls : ab_L} {st : List Value} {w : ab_W} : ab_Run ab_mt 152 3 ls st w = ab_Run ab_mt 152 4 ls (.long (lN 1) :: st) w := E_push (n := 1) rfl
theorem e_152_4 {ls : ab_L} {st : List Value} {w : ab_W} {v0 v1 v2 : Value} (h1 : ab_recv ab_mt 107 [v0, v1, v2] w.2 = true) (h8 : ab_w8 st = true) : ab_Run ab_mt 152 4 ls (v2 :: v1 :: v0 :: st) w = ab_aft 107 152 4 ls st (ab_Cl 107 [v0, v1, v2] w) := E_call3 rfl h1 h8
theorem e_152_7 {ls : ab_L} {w : ab_W} {x : Int32} (h : ab_fitr 2 (.int x) = true) : ab_Run ab_mt 152 7 ls [.int x] w = some (.inl (some (.int x)), w) := E_retz rfl h
theorem rv_152 {σ : ab_S} {x0 : Int32} : ab_recv ab_mt 152 [.int x0] σ = true := rfl
theorem e_153_0 {ls : ab_L} {st : List Value} {w : ab_W} (h : ab_isR (ls 0) = true) : ab_Run ab_mt 153 0 ls st w = ab_Run ab_mt 153 1 ls (ab_gv (ls 0) :: st) w := E_loadr (n := 1) rfl h
theorem e_153_1 {ls : ab_L} {st : List Value} {w : ab_W} (h : ab_isI (ls 1) = true) : ab_Run ab_mt 153 1 ls st w = ab_Run ab_mt 153 2 ls (ab_gv (ls 1) :: st) w := E_loadi (n := 1) rfl h
theorem e_153_2 {ls : ab_L} {st : List Value} {w : ab_W} {v0 : Value} (h1 : ab_recv ab_mt 152 [v0] w.2 = true) (h8 : ab_w8 st = true) : ab_Run ab_mt 153 2 ls (v0 :: st) w = ab_aft 152 153 2 ls st (ab_Cl 152 [v0] w) := E_call1 rfl h1 h8
theorem e_153_5 {ls : ab_L} {st : List Value} {w : ab_W} {x : Int32} : ab_Run ab_mt 153 5 ls (.int x :: st) w = if x = 0 then ab_Run ab_mt 153 12 ls st w else ab_Run ab_mt 153 8 ls st w := E_if_eq rfl
theorem e_153_8 {ls : ab_L} {st : List Value} {w : ab_W} : ab_Run ab_mt 153 8 ls st w = ab_Run ab_mt 153 9 ls (.int (nI 0) :: st) w := E_push (n := 1) rfl
theorem e_153_9 {ls : ab_L} {st : List Value} {w : ab_W} : ab_Run ab_mt 153 9 ls st w = ab_Run ab_mt 153 13 ls st w := E_goto rfl
theorem e_153_12 {ls : ab_L} {st : List Value} {w : ab_W} : ab_Run ab_mt 153 12 ls st w = ab_Run ab_mt 153 13 ls (.int (nI 1) :: st) w := E_push (n := 1) rfl
theorem e_153_13 {ls : ab_L} {st : List Value} {w : ab_W} {a : Nat} {x : Int32} (h : ab_isF 7 0 (w.2 a) = true) : ab_Run ab_mt 153 13 ls (.int x :: .ref a :: st) w = ab_Run ab_mt 153 16 ls st (w.1, ab_up w.2 a (ab_sf 0 (.int x) (w.2 a))) := E_put rfl h rfl
theorem e_153_16 {ls : ab_L} {st : List Value} {w : ab_W} (h : ab_isR (ls 0) = true) : ab_Run ab_mt 153 16 ls st w = ab_Run ab_mt 153 17 ls (ab_gv (ls 0) :: st) w := E_loadr (n := 1) rfl h
theorem e_153_17 {ls : ab_L} {st : List Value} {w : ab_W} {a : Nat} (h : ab_isF 7 0 (w.2 a) = true) : ab_Run ab_mt 153 17 ls (.ref a :: st) w = ab_Run ab_mt 153 20 ls (ab_fv 0 (w.2 a) :: st) w := E_get rfl h
theorem e_153_20 {ls : ab_L} {st : List Value} {w : ab_W} {x : Int32} : ab_Run ab_mt 153 20 ls (.int x :: st) w = if x ≤ 0 then ab_Run ab_mt 153 25 ls st w else ab_Run ab_mt 153 23 ls st w := E_if_le rfl
theorem e_153_23 {ls : ab_L} {st : List Value} {w : ab_W} : ab_Run ab_mt 153 23 ls st w = ab_Run ab_mt 153 24 ls (.int (nI 0) :: st) w := E_push (n := 1) rfl
theorem e_153_24 {ls : ab_L} {w : ab_W} {x : Int32} : ab_Run ab_mt 153 24 ls [.int x] w = some (.inl (some (.int x)), w) := E_reti rfl
theorem e_153_25 {ls : ab_L} {st : List Value} {w : ab_W} (h : ab_isR (ls 0) = true) : ab_Run ab_mt 153 25 ls st w = ab_Run ab_mt 153 26 ls (ab_gv (ls 0) :: st) w := E_loadr (n := 1) rfl h
theorem e_153_26 {ls : ab_L} {st : List Value} {w : ab_W} (h : ab_isR (ls 0) = true) : ab_Run ab_mt 153 26 ls st w = ab_Run ab_mt 153 27 ls (ab_gv (ls 0) :: st) w := E_loadr (n := 1) rfl h
theorem e_153_27 {ls : ab_L} {st : List Value} {w : ab_W} {a : Nat} (h : ab_isF 7 1 (w.2 a) = true) : ab_Run ab_mt 153 27 ls (.ref a :: st) w = ab_Run ab_mt 153 30 ls (ab_fv 1 (w.2 a) :: st) w := E_get rfl h
theorem e_153_30 {ls : ab_L} {st : List Value} {w : ab_W} : ab_Run ab_mt 153 30 ls st w = ab_Run ab_mt 153 31 ls (.int (nI 0) :: st) w := E_push (n := 1) rfl
theorem e_153_31 {ls : ab_L} {st : List Value} {w : ab_W} (h : ab_isR (ls 0) = true) : ab_Run ab_mt 153 31 ls st w = ab_Run ab_mt 153 32 ls (ab_gv (ls 0) :: st) w := E_loadr (n := 1) rfl h
theorem e_153_32 {ls : ab_L} {st : List Value} {w : ab_W} {a : Nat} (h : ab_isF 7 6 (w.2 a) = true) : ab_Run ab_mt 153 32 ls (.ref a :: st) w = ab_Run ab_mt 153 35 ls (ab_fv 6 (w.2 a) :: st) w := E_get rfl h
theorem e_153_35 {ls : ab_L} {st : List Value} {w : ab_W} : ab_Run ab_mt 153 35 ls st w = ab_Run ab_mt 153 38 ls (.int (nI 193) :: st) w := E_push (n := 3) rfl
theorem e_153_38 {ls : ab_L} {st : List Value} {w : ab_W} (h : ab_isI (ls 1) = true) : ab_Run ab_mt 153 38 ls st w = ab_Run ab_mt 153 39 ls (ab_gv (ls 1) :: st) w := E_loadi (n := 1) rfl h
theorem e_153_39 {ls : ab_L} {st : List Value} {w : ab_W} {x y : Int32} : ab_Run ab_mt 153 39 ls (.int y :: .int x :: st) w = ab_Run ab_mt 153 40 ls (.int (x * y) :: st) w := E_ib (f := fun x y => x * y) rfl
theorem e_153_40 {ls : ab_L} {st : List Value} {w : ab_W} {v0 v1 v2 v3 v4 : Value} (h1 : ab_recv ab_mt 116 [v0, v1, v2, v3, v4] w.2 = true) (h8 : ab_w8 st = true) : ab_Run ab_mt 153 40 ls (v4 :: v3 :: v2 :: v1 :: v0 :: st) w = ab_aft 116 153 40 ls st (ab_Cl 116 [v0, v1, v2, v3, v4] w) := E_call5 rfl h1 h8
theorem e_153_43 {ls : ab_L} {st : List Value} {w : ab_W} (h : ab_isR (ls 0) = true) : ab_Run ab_mt 153 43 ls st w = ab_Run ab_mt 153 44 ls (ab_gv (ls 0) :: st) w := E_loadr (n := 1) rfl h
theorem e_153_44 {ls : ab_L} {st : List Value} {w : ab_W} {x : Nat} : ab_Run ab_mt 153 44 ls (.ref x :: st) w = ab_Run ab_mt 153 45 ls (.ref x :: .ref x :: st) w := E_dup_r rfl
theorem e_153_45 {ls : ab_L} {st : List Value} {w : ab_W} {a : Nat} (h : ab_isF 7 5 (w.2 a) = true) : ab_Run ab_mt 153 45 ls (.ref a :: st) w = ab_Run ab_mt 153 48 ls (ab_fv 5 (w.2 a) :: st) w := E_get rfl h
theorem e_153_48 {ls : ab_L} {st : List Value} {w : ab_W} : ab_Run ab_mt 153 48 ls st w = ab_Run ab_mt 153 49 ls (.int (nI 1) :: st) w := E_push (n := 1) rfl
theorem e_153_49 {ls : ab_L} {st : List Value} {w : ab_W} (h : ab_isI (ls 1) = true) : ab_Run ab_mt 153 49 ls st w = ab_Run ab_mt 153 50 ls (ab_gv (ls 1) :: st) w := E_loadi (n := 1) rfl h
theorem e_153_50 {ls : ab_L} {st : List Value} {w : ab_W} {x y : Int32} : ab_Run ab_mt 153 50 ls (.int y :: .int x :: st) w = ab_Run ab_mt 153 51 ls (.int (x <<< (y &&& 31)) :: st) w := E_ib (f := fun x y => x <<< (y &&& 31)) rfl
theorem e_153_51 {ls : ab_L} {st : List Value} {w : ab_W} {x y : Int32} : ab_Run ab_mt 153 51 ls (.int y :: .int x :: st) w = ab_Run ab_mt 153 52 ls (.int (x ||| y) :: st) w := E_ib (f := fun x y => x ||| y) rfl
theorem e_153_52 {ls : ab_L} {st : List Value} {w : ab_W} {a : Nat} {x : Int32} (h : ab_isF 7 5 (w.2 a) = true) : ab_Run ab_mt 153 52 ls (.int x :: .ref a :: st) w = ab_Run ab_mt 153 55 ls st (w.1, ab_up w.2 a (ab_sf 5 (.int x) (w.2 a))) := E_put rfl h rfl
theorem e_153_55 {ls : ab_L} {st : List Value} {w : ab_W} (h : ab_isR (ls 0) = true) : ab_Run ab_mt 153 55 ls st w = ab_Run ab_mt 153 56 ls (ab_gv (ls 0) :: st) w := E_loadr (n := 1) rfl h
theorem e_153_56 {ls : ab_L} {st : List Value} {w : ab_W} {v0 : Value} (h1 : ab_recv ab_mt 108 [v0] w.2 = true) (h8 : ab_w8 st = true) : ab_Run ab_mt 153 56 ls (v0 :: st) w = ab_aft 108 153 56 ls st (ab_Cl 108 [v0] w) := E_call1 rfl h1 h8
theorem e_153_59 {ls : ab_L} {w : ab_W} {x : Int32} : ab_Run ab_mt 153 59 ls [.int x] w = some (.inl (some (.int x)), w) := E_reti rfl
theorem rv_153 {σ : ab_S} {t : Nat} {x0 : Int32} : ab_recv ab_mt 153 [.ref t, .int x0] σ = ab_isO 7 (σ t) := rfl
theorem e_154_0 {ls : ab_L} {st : List Value} {w : ab_W} (h : ab_isR (ls 0) = true) : ab_Run ab_mt 154 0 ls st w = ab_Run ab_mt 154 1 ls (ab_gv (ls 0) :: st) w := E_loadr (n := 1) rfl h
theorem e_154_1 {ls : ab_L} {st : List Value} {w : ab_W} (h : ab_isI (ls 1) = true) : ab_Run ab_mt 154 1 ls st w = ab_Run ab_mt 154 2 ls (ab_gv (ls 1) :: st) w := E_loadi (n := 1) rfl h
theorem e_154_2 {ls : ab_L} {st : List Value} {w : ab_W} {v0 : Value} (h1 : ab_recv ab_mt 152 [v0] w.2 = true) (h8 : ab_w8 st = true) : ab_Run ab_mt 154 2 ls (v0 :: st) w = ab_aft 152 154 2 ls st (ab_Cl 152 [v0] w) := E_call1 rfl h1 h8
theorem e_154_5 {ls : ab_L} {st : List Value} {w : ab_W} {x : Int32} : ab_Run ab_mt 154 5 ls (.int x :: st) w = if x = 0 then ab_Run ab_mt 154 8 ls st w else ab_Run ab_mt 154 12 ls st w := E_if_ne rfl
theorem e_154_8 {ls : ab_L} {st : List Value} {w : ab_W} : ab_Run ab_mt 154 8 ls st w = ab_Run ab_mt 154 9 ls (.int (nI 1) :: st) w := E_push (n := 1) rfl
theorem e_154_9 {ls : ab_L} {st : List Value} {w : ab_W} : ab_Run ab_mt 154 9 ls st w = ab_Run ab_mt 154 35 ls st w := E_goto rfl
theorem e_154_12 {ls : ab_L} {st : List Value} {w : ab_W} (h : ab_isR (ls 0) = true) : ab_Run ab_mt 154 12 ls st w = ab_Run ab_mt 154 13 ls (ab_gv (ls 0) :: st) w := E_loadr (n := 1) rfl h
theorem e_154_13 {ls : ab_L} {st : List Value} {w : ab_W} {a : Nat} (h : ab_isF 7 9 (w.2 a) = true) : ab_Run ab_mt 154 13 ls (.ref a :: st) w = ab_Run ab_mt 154 16 ls (ab_fv 9 (w.2 a) :: st) w := E_get rfl h
theorem e_154_16 {ls : ab_L} {st : List Value} {w : ab_W} {x : Int32} : ab_Run ab_mt 154 16 ls (.int x :: st) w = if x = 0 then ab_Run ab_mt 154 19 ls st w else ab_Run ab_mt 154 30 ls st w := E_if_ne rfl
theorem e_154_19 {ls : ab_L} {st : List Value} {w : ab_W} (h : ab_isR (ls 0) = true) : ab_Run ab_mt 154 19 ls st w = ab_Run ab_mt 154 20 ls (ab_gv (ls 0) :: st) w := E_loadr (n := 1) rfl h
theorem e_154_20 {ls : ab_L} {st : List Value} {w : ab_W} {a : Nat} (h : ab_isF 7 5 (w.2 a) = true) : ab_Run ab_mt 154 20 ls (.ref a :: st) w = ab_Run ab_mt 154 23 ls (ab_fv 5 (w.2 a) :: st) w := E_get rfl h
theorem e_154_23 {ls : ab_L} {st : List Value} {w : ab_W} (h : ab_isI (ls 1) = true) : ab_Run ab_mt 154 23 ls st w = ab_Run ab_mt 154 24 ls (ab_gv (ls 1) :: st) w := E_loadi (n := 1) rfl h
theorem e_154_24 {ls : ab_L} {st : List Value} {w : ab_W} {x y : Int32} : ab_Run ab_mt 154 24 ls (.int y :: .int x :: st) w = ab_Run ab_mt 154 25 ls (.int (x >>> (y &&& 31)) :: st) w := E_ib (f := fun x y => x >>> (y &&& 31)) rfl
theorem e_154_25 {ls : ab_L} {st : List Value} {w : ab_W} : ab_Run ab_mt 154 25 ls st w = ab_Run ab_mt 154 26 ls (.int (nI 1) :: st) w := E_push (n := 1) rfl
theorem e_154_26 {ls : ab_L} {st : List Value} {w : ab_W} {x y : Int32} : ab_Run ab_mt 154 26 ls (.int y :: .int x :: st) w = ab_Run ab_mt 154 27 ls (.int (x &&& y) :: st) w := E_ib (f := fun x y => x &&& y) rfl
theorem e_154_27 {ls : ab_L} {st : List Value} {w : ab_W} {x : Int32} : ab_Run ab_mt 154 27 ls (.int x :: st) w = if x = 0 then ab_Run ab_mt 154 30 ls st w else ab_Run ab_mt 154 34 ls st w := E_if_ne rfl
theorem e_154_30 {ls : ab_L} {st : List Value} {w : ab_W} : ab_Run ab_mt 154 30 ls st w = ab_Run ab_mt 154 31 ls (.int (nI 2) :: st) w := E_push (n := 1) rfl
theorem e_154_31 {ls : ab_L} {st : List Value} {w : ab_W} : ab_Run ab_mt 154 31 ls st w = ab_Run ab_mt 154 35 ls st w := E_goto rfl
theorem e_154_34 {ls : ab_L} {st : List Value} {w : ab_W} : ab_Run ab_mt 154 34 ls st w = ab_Run ab_mt 154 35 ls (.int (nI 0) :: st) w := E_push (n := 1) rfl
theorem e_154_35 {ls : ab_L} {st : List Value} {w : ab_W} {a : Nat} {x : Int32} (h : ab_isF 7 0 (w.2 a) = true) : ab_Run ab_mt 154 35 ls (.int x :: .ref a :: st) w = ab_Run ab_mt 154 38 ls st (w.1, ab_up w.2 a (ab_sf 0 (.int x) (w.2 a))) := E_put rfl h rfl
theorem e_154_38 {ls : ab_L} {st : List Value} {w : ab_W} (h : ab_isR (ls 0) = true) : ab_Run ab_mt 154 38 ls st w = ab_Run ab_mt 154 39 ls (ab_gv (ls 0) :: st) w := E_loadr (n := 1) rfl h
theorem e_154_39 {ls : ab_L} {st : List Value} {w : ab_W} {a : Nat} (h : ab_isF 7 0 (w.2 a) = true) : ab_Run ab_mt 154 39 ls (.ref a :: st) w = ab_Run ab_mt 154 42 ls (ab_fv 0 (w.2 a) :: st) w := E_get rfl h
theorem e_154_42 {ls : ab_L} {st : List Value} {w : ab_W} {x : Int32} : ab_Run ab_mt 154 42 ls (.int x :: st) w = if x ≤ 0 then ab_Run ab_mt 154 47 ls st w else ab_Run ab_mt 154 45 ls st w := E_if_le rfl
theorem e_154_45 {ls : ab_L} {st : List Value} {w : ab_W} : ab_Run ab_mt 154 45 ls st w = ab_Run ab_mt 154 46 ls (.int (nI 0) :: st) w := E_push (n := 1) rfl
theorem e_154_46 {ls : ab_L} {w : ab_W} {x : Int32} : ab_Run ab_mt 154 46 ls [.int x] w = some (.inl (some (.int x)), w) := E_reti rfl
theorem e_154_47 {ls : ab_L} {st : List Value} {w : ab_W} (h : ab_isR (ls 0) = true) : ab_Run ab_mt 154 47 ls st w = ab_Run ab_mt 154 48 ls (ab_gv (ls 0) :: st) w := E_loadr (n := 1) rfl h
theorem e_154_48 {ls : ab_L} {st : List Value} {w : ab_W} {v0 : Value} (h1 : ab_recv ab_mt 117 [v0] w.2 = true) (h8 : ab_w8 st = true) : ab_Run ab_mt 154 48 ls (v0 :: st) w = ab_aft 117 154 48 ls st (ab_Cl 117 [v0] w) := E_call1 rfl h1 h8
theorem e_154_51 {ls : ab_L} {st : List Value} {w : ab_W} (h : ab_isR (ls 0) = true) : ab_Run ab_mt 154 51 ls st w = ab_Run ab_mt 154 52 ls (ab_gv (ls 0) :: st) w := E_loadr (n := 1) rfl h
theorem e_154_52 {ls : ab_L} {st : List Value} {w : ab_W} (h : ab_isR (ls 0) = true) : ab_Run ab_mt 154 52 ls st w = ab_Run ab_mt 154 53 ls (ab_gv (ls 0) :: st) w := E_loadr (n := 1) rfl h
theorem e_154_53 {ls : ab_L} {st : List Value} {w : ab_W} {a : Nat} (h : ab_isF 7 6 (w.2 a) = true) : ab_Run ab_mt 154 53 ls (.ref a :: st) w = ab_Run ab_mt 154 56 ls (ab_fv 6 (w.2 a) :: st) w := E_get rfl h
theorem e_154_56 {ls : ab_L} {st : List Value} {w : ab_W} : ab_Run ab_mt 154 56 ls st w = ab_Run ab_mt 154 59 ls (.int (nI 193) :: st) w := E_push (n := 3) rfl
theorem e_154_59 {ls : ab_L} {st : List Value} {w : ab_W} (h : ab_isI (ls 1) = true) : ab_Run ab_mt 154 59 ls st w = ab_Run ab_mt 154 60 ls (ab_gv (ls 1) :: st) w := E_loadi (n := 1) rfl h
theorem e_154_60 {ls : ab_L} {st : List Value} {w : ab_W} {x y : Int32} : ab_Run ab_mt 154 60 ls (.int y :: .int x :: st) w = ab_Run ab_mt 154 61 ls (.int (x * y) :: st) w := E_ib (f := fun x y => x * y) rfl
theorem e_154_61 {ls : ab_L} {st : List Value} {w : ab_W} (h : ab_isR (ls 0) = true) : ab_Run ab_mt 154 61 ls st w = ab_Run ab_mt 154 62 ls (ab_gv (ls 0) :: st) w := E_loadr (n := 1) rfl h
theorem e_154_62 {ls : ab_L} {st : List Value} {w : ab_W} {a : Nat} (h : ab_isF 7 1 (w.2 a) = true) : ab_Run ab_mt 154 62 ls (.ref a :: st) w = ab_Run ab_mt 154 65 ls (ab_fv 1 (w.2 a) :: st) w := E_get rfl h
theorem e_154_65 {ls : ab_L} {st : List Value} {w : ab_W} : ab_Run ab_mt 154 65 ls st w = ab_Run ab_mt 154 66 ls (.int (nI 0) :: st) w := E_push (n := 1) rfl
theorem e_154_66 {ls : ab_L} {st : List Value} {w : ab_W} {v0 v1 v2 v3 v4 : Value} (h1 : ab_recv ab_mt 116 [v0, v1, v2, v3, v4] w.2 = true) (h8 : ab_w8 st = true) : ab_Run ab_mt 154 66 ls (v4 :: v3 :: v2 :: v1 :: v0 :: st) w = ab_aft 116 154 66 ls st (ab_Cl 116 [v0, v1, v2, v3, v4] w) := E_call5 rfl h1 h8
theorem e_154_69 {ls : ab_L} {st : List Value} {w : ab_W} (h : ab_isR (ls 0) = true) : ab_Run ab_mt 154 69 ls st w = ab_Run ab_mt 154 70 ls (ab_gv (ls 0) :: st) w := E_loadr (n := 1) rfl h
theorem e_154_70 {ls : ab_L} {st : List Value} {w : ab_W} {v0 : Value} (h1 : ab_recv ab_mt 108 [v0] w.2 = true) (h8 : ab_w8 st = true) : ab_Run ab_mt 154 70 ls (v0 :: st) w = ab_aft 108 154 70 ls st (ab_Cl 108 [v0] w) := E_call1 rfl h1 h8
theorem e_154_73 {ls : ab_L} {w : ab_W} {x : Int32} : ab_Run ab_mt 154 73 ls [.int x] w = some (.inl (some (.int x)), w) := E_reti rfl
theorem rv_154 {σ : ab_S} {t : Nat} {x0 : Int32} : ab_recv ab_mt 154 [.ref t, .int x0] σ = ab_isO 7 (σ t) := rfl
theorem e_155_0 {ls : ab_L} {st : List Value} {w : ab_W} (h : ab_isR (ls 0) = true) : ab_Run ab_mt 155 0 ls st w = ab_Run ab_mt 155 1 ls (ab_gv (ls 0) :: st) w := E_loadr (n := 1) rfl h
theorem e_155_1 {ls : ab_L} {st : List Value} {w : ab_W} (h : ab_isR (ls 0) = true) : ab_Run ab_mt 155 1 ls st w = ab_Run ab_mt 155 2 ls (ab_gv (ls 0) :: st) w := E_loadr (n := 1) rfl h
theorem e_155_2 {ls : ab_L} {st : List Value} {w : ab_W} {a : Nat} (h : ab_isF 7 10 (w.2 a) = true) : ab_Run ab_mt 155 2 ls (.ref a :: st) w = ab_Run ab_mt 155 5 ls (ab_fv 10 (w.2 a) :: st) w := E_get rfl h
theorem e_155_5 {ls : ab_L} {st : List Value} {w : ab_W} {v0 v1 : Value} (h1 : ab_recv ab_mt 113 [v0, v1] w.2 = true) (h8 : ab_w8 st = true) : ab_Run ab_mt 155 5 ls (v1 :: v0 :: st) w = ab_aft 113 155 5 ls st (ab_Cl 113 [v0, v1] w) := E_call2 rfl h1 h8
theorem e_155_8 {ls : ab_L} {st : List Value} {w : ab_W} {x : Int32} : ab_Run ab_mt 155 8 ls (.int x :: st) w = ab_Run ab_mt 155 9 (ab_l1 ls 3 (.int x)) st w := E_stori (n := 1) rfl
theorem e_155_9 {ls : ab_L} {st : List Value} {w : ab_W} (h : ab_isR (ls 0) = true) : ab_Run ab_mt 155 9 ls st w = ab_Run ab_mt 155 10 ls (ab_gv (ls 0) :: st) w := E_loadr (n := 1) rfl h
theorem e_155_10 {ls : ab_L} {st : List Value} {w : ab_W} {a : Nat} (h : ab_isF 7 11 (w.2 a) = true) : ab_Run ab_mt 155 10 ls (.ref a :: st) w = ab_Run ab_mt 155 13 ls (ab_fv 11 (w.2 a) :: st) w := E_get rfl h
theorem e_155_13 {ls : ab_L} {st : List Value} {w : ab_W} {x : Int32} : ab_Run ab_mt 155 13 ls (.int x :: st) w = ab_Run ab_mt 155 14 ls (.long x.toInt64 :: st) w := E_i2l rfl
theorem e_155_14 {ls : ab_L} {st : List Value} {w : ab_W} (h : ab_isR (ls 0) = true) : ab_Run ab_mt 155 14 ls st w = ab_Run ab_mt 155 15 ls (ab_gv (ls 0) :: st) w := E_loadr (n := 1) rfl h
theorem e_155_15 {ls : ab_L} {st : List Value} {w : ab_W} {a : Nat} (h : ab_isF 7 16 (w.2 a) = true) : ab_Run ab_mt 155 15 ls (.ref a :: st) w = ab_Run ab_mt 155 18 ls (ab_fv 16 (w.2 a) :: st) w := E_get rfl h
theorem e_155_18 {ls : ab_L} {st : List Value} {w : ab_W} (h : ab_isI (ls 3) = true) : ab_Run ab_mt 155 18 ls st w = ab_Run ab_mt 155 19 ls (ab_gv (ls 3) :: st) w := E_loadi (n := 1) rfl h
theorem e_155_19 {ls : ab_L} {st : List Value} {w : ab_W} {a : Nat} {i : Int32} (h : ab_inL i (w.2 a) = true) : ab_Run ab_mt 155 19 ls (.int i :: .ref a :: st) w = ab_Run ab_mt 155 20 ls (.long (ab_aL i.toNatClampNeg (w.2 a)) :: st) w := E_lald rfl h
theorem e_155_20 {ls : ab_L} {st : List Value} {w : ab_W} {x y : Int64} : ab_Run ab_mt 155 20 ls (.long y :: .long x :: st) w = ab_Run ab_mt 155 21 ls (.long (x * y) :: st) w := E_lb (f := fun x y => x * y) rfl
theorem e_155_21 {ls : ab_L} {st : List Value} {w : ab_W} (h : ab_isL (ls 1) = true) (h2 : (ls 2).isNone = true) : ab_Run ab_mt 155 21 ls st w = ab_Run ab_mt 155 22 ls (ab_gv (ls 1) :: st) w := E_loadl (n := 1) rfl h h2
theorem e_155_22 {ls : ab_L} {st : List Value} {w : ab_W} {x y : Int64} : ab_Run ab_mt 155 22 ls (.long y :: .long x :: st) w = ab_Run ab_mt 155 23 ls (.long (x + y) :: st) w := E_lb (f := fun x y => x + y) rfl
theorem e_155_23 {ls : ab_L} {st : List Value} {w : ab_W} (h : ab_isR (ls 0) = true) : ab_Run ab_mt 155 23 ls st w = ab_Run ab_mt 155 24 ls (ab_gv (ls 0) :: st) w := E_loadr (n := 1) rfl h
theorem e_155_24 {ls : ab_L} {st : List Value} {w : ab_W} {a : Nat} (h : ab_isF 7 15 (w.2 a) = true) : ab_Run ab_mt 155 24 ls (.ref a :: st) w = ab_Run ab_mt 155 27 ls (ab_fv 15 (w.2 a) :: st) w := E_get rfl h
theorem e_155_27 {ls : ab_L} {st : List Value} {w : ab_W} (h : ab_isI (ls 3) = true) : ab_Run ab_mt 155 27 ls st w = ab_Run ab_mt 155 28 ls (ab_gv (ls 3) :: st) w := E_loadi (n := 1) rfl h
theorem e_155_28 {ls : ab_L} {st : List Value} {w : ab_W} {a : Nat} {i : Int32} (h : ab_inL i (w.2 a) = true) : ab_Run ab_mt 155 28 ls (.int i :: .ref a :: st) w = ab_Run ab_mt 155 29 ls (.long (ab_aL i.toNatClampNeg (w.2 a)) :: st) w := E_lald rfl h
theorem e_155_29 {ls : ab_L} {st : List Value} {w : ab_W} {x y : Int64} : ab_Run ab_mt 155 29 ls (.long y :: .long x :: st) w = ab_Run ab_mt 155 30 ls (.long (x - y) :: st) w := E_lb (f := fun x y => x - y) rfl
theorem e_155_30 {ls : ab_L} {st : List Value} {w : ab_W} : ab_Run ab_mt 155 30 ls st w = ab_Run ab_mt 155 33 ls (.long (lN 100) :: st) w := E_push (n := 3) rfl
theorem e_155_33 {ls : ab_L} {st : List Value} {w : ab_W} {x y : Int64} : ab_Run ab_mt 155 33 ls (.long y :: .long x :: st) w = ab_Run ab_mt 155 34 ls (.long (x * y) :: st) w := E_lb (f := fun x y => x * y) rfl
theorem e_155_34 {ls : ab_L} {st : List Value} {w : ab_W} (h : ab_isR (ls 0) = true) : ab_Run ab_mt 155 34 ls st w = ab_Run ab_mt 155 35 ls (ab_gv (ls 0) :: st) w := E_loadr (n := 1) rfl h
theorem e_155_35 {ls : ab_L} {st : List Value} {w : ab_W} {a : Nat} (h : ab_isF 7 12 (w.2 a) = true) : ab_Run ab_mt 155 35 ls (.ref a :: st) w = ab_Run ab_mt 155 38 ls (ab_fv 12 (w.2 a) :: st) w := E_get rfl h
theorem e_155_38 {ls : ab_L} {st : List Value} {w : ab_W} {x : Int32} : ab_Run ab_mt 155 38 ls (.int x :: st) w = ab_Run ab_mt 155 39 ls (.long x.toInt64 :: st) w := E_i2l rfl
theorem e_155_39 {ls : ab_L} {st : List Value} {w : ab_W} {x y : Int64} (h : ¬ y = 0) : ab_Run ab_mt 155 39 ls (.long y :: .long x :: st) w = ab_Run ab_mt 155 40 ls (.long (x / y) :: st) w := E_ldv (f := fun x y => x / y) rfl h
theorem e_155_40 {ls : ab_L} {w : ab_W} {x : Int64} : ab_Run ab_mt 155 40 ls [.long x] w = some (.inl (some (.long x)), w) := E_retl rfl
theorem rv_155 {σ : ab_S} {t : Nat} {x0 : Int64} : ab_recv ab_mt 155 [.ref t, .long x0] σ = ab_isO 7 (σ t) := rfl
theorem e_156_0 {ls : ab_L} {st : List Value} {w : ab_W} (h : ab_isI (ls 1) = true) : ab_Run ab_mt 156 0 ls st w = ab_Run ab_mt 156 1 ls (ab_gv (ls 1) :: st) w := E_loadi (n := 1) rfl h
theorem e_156_1 {ls : ab_L} {st : List Value} {w : ab_W} {x : Int32} : ab_Run ab_mt 156 1 ls (.int x :: st) w = ab_Run ab_mt 156 2 ls (.long x.toInt64 :: st) w := E_i2l rfl
theorem e_156_2 {ls : ab_L} {st : List Value} {w : ab_W} (h : ab_isR (ls 0) = true) : ab_Run ab_mt 156 2 ls st w = ab_Run ab_mt 156 3 ls (ab_gv (ls 0) :: st) w := E_loadr (n := 1) rfl h
theorem e_156_3 {ls : ab_L} {st : List Value} {w : ab_W} {a : Nat} (h : ab_isF 7 16 (w.2 a) = true) : ab_Run ab_mt 156 3 ls (.ref a :: st) w = ab_Run ab_mt 156 6 ls (ab_fv 16 (w.2 a) :: st) w := E_get rfl h
theorem e_156_6 {ls : ab_L} {st : List Value} {w : ab_W} (h : ab_isR (ls 0) = true) : ab_Run ab_mt 156 6 ls st w = ab_Run ab_mt 156 7 ls (ab_gv (ls 0) :: st) w := E_loadr (n := 1) rfl h
theorem e_156_7 {ls : ab_L} {st : List Value} {w : ab_W} (h : ab_isR (ls 0) = true) : ab_Run ab_mt 156 7 ls st w = ab_Run ab_mt 156 8 ls (ab_gv (ls 0) :: st) w := E_loadr (n := 1) rfl h
theorem e_156_8 {ls : ab_L} {st : List Value} {w : ab_W} {a : Nat} (h : ab_isF 7 10 (w.2 a) = true) : ab_Run ab_mt 156 8 ls (.ref a :: st) w = ab_Run ab_mt 156 11 ls (ab_fv 10 (w.2 a) :: st) w := E_get rfl h
theorem e_156_11 {ls : ab_L} {st : List Value} {w : ab_W} {v0 v1 : Value} (h1 : ab_recv ab_mt 113 [v0, v1] w.2 = true) (h8 : ab_w8 st = true) : ab_Run ab_mt 156 11 ls (v1 :: v0 :: st) w = ab_aft 113 156 11 ls st (ab_Cl 113 [v0, v1] w) := E_call2 rfl h1 h8
theorem e_156_14 {ls : ab_L} {st : List Value} {w : ab_W} {a : Nat} {i : Int32} (h : ab_inL i (w.2 a) = true) : ab_Run ab_mt 156 14 ls (.int i :: .ref a :: st) w = ab_Run ab_mt 156 15 ls (.long (ab_aL i.toNatClampNeg (w.2 a)) :: st) w := E_lald rfl h
theorem e_156_15 {ls : ab_L} {st : List Value} {w : ab_W} {x y : Int64} : ab_Run ab_mt 156 15 ls (.long y :: .long x :: st) w = ab_Run ab_mt 156 16 ls (.long (x * y) :: st) w := E_lb (f := fun x y => x * y) rfl
theorem e_156_16 {ls : ab_L} {st : List Value} {w : ab_W} : ab_Run ab_mt 156 16 ls st w = ab_Run ab_mt 156 19 ls (.long (lN 100) :: st) w := E_push (n := 3) rfl
theorem e_156_19 {ls : ab_L} {st : List Value} {w : ab_W} {x y : Int64} : ab_Run ab_mt 156 19 ls (.long y :: .long x :: st) w = ab_Run ab_mt 156 20 ls (.long (x * y) :: st) w := E_lb (f := fun x y => x * y) rfl
theorem e_156_20 {ls : ab_L} {st : List Value} {w : ab_W} (h : ab_isR (ls 0) = true) : ab_Run ab_mt 156 20 ls st w = ab_Run ab_mt 156 21 ls (ab_gv (ls 0) :: st) w := E_loadr (n := 1) rfl h
theorem e_156_21 {ls : ab_L} {st : List Value} {w : ab_W} {a : Nat} (h : ab_isF 7 12 (w.2 a) = true) : ab_Run ab_mt 156 21 ls (.ref a :: st) w = ab_Run ab_mt 156 24 ls (ab_fv 12 (w.2 a) :: st) w := E_get rfl h
theorem e_156_24 {ls : ab_L} {st : List Value} {w : ab_W} {x : Int32} : ab_Run ab_mt 156 24 ls (.int x :: st) w = ab_Run ab_mt 156 25 ls (.long x.toInt64 :: st) w := E_i2l rfl
theorem e_156_25 {ls : ab_L} {st : List Value} {w : ab_W} {x y : Int64} (h : ¬ y = 0) : ab_Run ab_mt 156 25 ls (.long y :: .long x :: st) w = ab_Run ab_mt 156 26 ls (.long (x / y) :: st) w := E_ldv (f := fun x y => x / y) rfl h
theorem e_156_26 {ls : ab_L} {w : ab_W} {x : Int64} : ab_Run ab_mt 156 26 ls [.long x] w = some (.inl (some (.long x)), w) := E_retl rfl
theorem rv_156 {σ : ab_S} {t : Nat} {x0 : Int32} : ab_recv ab_mt 156 [.ref t, .int x0] σ = ab_isO 7 (σ t) := rfl
theorem e_157_0 {ls : ab_L} {st : List Value} {w : ab_W} (h : ab_isR (ls 0) = true) : ab_Run ab_mt 157 0 ls st w = ab_Run ab_mt 157 1 ls (ab_gv (ls 0) :: st) w := E_loadr (n := 1) rfl h
theorem e_157_1 {ls : ab_L} {st : List Value} {w : ab_W} (h : ab_isR (ls 0) = true) : ab_Run ab_mt 157 1 ls st w = ab_Run ab_mt 157 2 ls (ab_gv (ls 0) :: st) w := E_loadr (n := 1) rfl h
theorem e_157_2 {ls : ab_L} {st : List Value} {w : ab_W} (h : ab_isI (ls 1) = true) : ab_Run ab_mt 157 2 ls st w = ab_Run ab_mt 157 3 ls (ab_gv (ls 1) :: st) w := E_loadi (n := 1) rfl h
theorem e_157_3 {ls : ab_L} {st : List Value} {w : ab_W} {v0 v1 : Value} (h1 : ab_recv ab_mt 124 [v0, v1] w.2 = true) (h8 : ab_w8 st = true) : ab_Run ab_mt 157 3 ls (v1 :: v0 :: st) w = ab_aft 124 157 3 ls st (ab_Cl 124 [v0, v1] w) := E_call2 rfl h1 h8
theorem e_157_6 {ls : ab_L} {st : List Value} {w : ab_W} {v0 v1 : Value} (h1 : ab_recv ab_mt 155 [v0, v1] w.2 = true) (h8 : ab_w8 st = true) : ab_Run ab_mt 157 6 ls (v1 :: v0 :: st) w = ab_aft 155 157 6 ls st (ab_Cl 155 [v0, v1] w) := E_call2 rfl h1 h8
theorem e_157_9 {ls : ab_L} {st : List Value} {w : ab_W} : ab_Run ab_mt 157 9 ls st w = ab_Run ab_mt 157 12 ls (.long (lN 1000) :: st) w := E_push (n := 3) rfl
theorem e_157_12 {ls : ab_L} {st : List Value} {w : ab_W} (h : ab_isR (ls 0) = true) : ab_Run ab_mt 157 12 ls st w = ab_Run ab_mt 157 13 ls (ab_gv (ls 0) :: st) w := E_loadr (n := 1) rfl h
theorem e_157_13 {ls : ab_L} {st : List Value} {w : ab_W} (h : ab_isI (ls 1) = true) : ab_Run ab_mt 157 13 ls st w = ab_Run ab_mt 157 14 ls (ab_gv (ls 1) :: st) w := E_loadi (n := 1) rfl h
theorem e_157_14 {ls : ab_L} {st : List Value} {w : ab_W} : ab_Run ab_mt 157 14 ls st w = ab_Run ab_mt 157 15 ls (.int (nI 2) :: st) w := E_push (n := 1) rfl
theorem e_157_15 {ls : ab_L} {st : List Value} {w : ab_W} {v0 v1 v2 : Value} (h1 : ab_recv ab_mt 111 [v0, v1, v2] w.2 = true) (h8 : ab_w8 st = true) : ab_Run ab_mt 157 15 ls (v2 :: v1 :: v0 :: st) w = ab_aft 111 157 15 ls st (ab_Cl 111 [v0, v1, v2] w) := E_call3 rfl h1 h8
theorem e_157_18 {ls : ab_L} {st : List Value} {w : ab_W} {x : Int32} : ab_Run ab_mt 157 18 ls (.int x :: st) w = ab_Run ab_mt 157 19 ls (.long x.toInt64 :: st) w := E_i2l rfl
theorem e_157_19 {ls : ab_L} {st : List Value} {w : ab_W} {x y : Int64} : ab_Run ab_mt 157 19 ls (.long y :: .long x :: st) w = ab_Run ab_mt 157 20 ls (.long (x * y) :: st) w := E_lb (f := fun x y => x * y) rfl
theorem e_157_20 {ls : ab_L} {st : List Value} {w : ab_W} {x y : Int64} : ab_Run ab_mt 157 20 ls (.long y :: .long x :: st) w = ab_Run ab_mt 157 21 ls (.long (x - y) :: st) w := E_lb (f := fun x y => x - y) rfl
theorem e_157_21 {ls : ab_L} {st : List Value} {w : ab_W} {x : Int64} : ab_Run ab_mt 157 21 ls (.long x :: st) w = ab_Run ab_mt 157 22 (ab_l2 ls 2 (.long x)) st w := E_storl (n := 1) rfl
theorem e_157_22 {ls : ab_L} {st : List Value} {w : ab_W} (h : ab_isL (ls 2) = true) (h2 : (ls 3).isNone = true) : ab_Run ab_mt 157 22 ls st w = ab_Run ab_mt 157 23 ls (ab_gv (ls 2) :: st) w := E_loadl (n := 1) rfl h h2
theorem e_157_23 {ls : ab_L} {st : List Value} {w : ab_W} : ab_Run ab_mt 157 23 ls st w = ab_Run ab_mt 157 24 ls (.long (lN 0) :: st) w := E_push (n := 1) rfl
theorem e_157_24 {ls : ab_L} {st : List Value} {w : ab_W} {x y : Int64} : ab_Run ab_mt 157 24 ls (.long y :: .long x :: st) w = ab_Run ab_mt 157 25 ls (.int (lg_cmp x y) :: st) w := E_lcmp rfl
theorem e_157_25 {ls : ab_L} {st : List Value} {w : ab_W} {x : Int32} : ab_Run ab_mt 157 25 ls (.int x :: st) w = if 0 ≤ x then ab_Run ab_mt 157 32 ls st w else ab_Run ab_mt 157 28 ls st w := E_if_ge rfl
theorem e_157_28 {ls : ab_L} {st : List Value} {w : ab_W} : ab_Run ab_mt 157 28 ls st w = ab_Run ab_mt 157 29 ls (.long (lN 0) :: st) w := E_push (n := 1) rfl
theorem e_157_29 {ls : ab_L} {st : List Value} {w : ab_W} : ab_Run ab_mt 157 29 ls st w = ab_Run ab_mt 157 33 ls st w := E_goto rfl
theorem e_157_32 {ls : ab_L} {st : List Value} {w : ab_W} (h : ab_isL (ls 2) = true) (h2 : (ls 3).isNone = true) : ab_Run ab_mt 157 32 ls st w = ab_Run ab_mt 157 33 ls (ab_gv (ls 2) :: st) w := E_loadl (n := 1) rfl h h2
theorem e_157_33 {ls : ab_L} {w : ab_W} {x : Int64} : ab_Run ab_mt 157 33 ls [.long x] w = some (.inl (some (.long x)), w) := E_retl rfl
theorem rv_157 {σ : ab_S} {t : Nat} {x0 : Int32} : ab_recv ab_mt 157 [.ref t, .int x0] σ = ab_isO 7 (σ t) := rfl
theorem e_158_0 {ls : ab_L} {st : List Value} {w : ab_W} (h : ab_isR (ls 0) = true) : ab_Run ab_mt 158 0 ls st w = ab_Run ab_mt 158 1 ls (ab_gv (ls 0) :: st) w := E_loadr (n := 1) rfl h
theorem e_158_1 {ls : ab_L} {st : List Value} {w : ab_W} (h : ab_isI (ls 1) = true) : ab_Run ab_mt 158 1 ls st w = ab_Run ab_mt 158 2 ls (ab_gv (ls 1) :: st) w := E_loadi (n := 1) rfl h
theorem e_158_2 {ls : ab_L} {st : List Value} {w : ab_W} : ab_Run ab_mt 158 2 ls st w = ab_Run ab_mt 158 3 ls (.int (nI 0) :: st) w := E_push (n := 1) rfl
theorem e_158_3 {ls : ab_L} {st : List Value} {w : ab_W} {v0 v1 v2 : Value} (h1 : ab_recv ab_mt 111 [v0, v1, v2] w.2 = true) (h8 : ab_w8 st = true) : ab_Run ab_mt 158 3 ls (v2 :: v1 :: v0 :: st) w = ab_aft 111 158 3 ls st (ab_Cl 111 [v0, v1, v2] w) := E_call3 rfl h1 h8
theorem e_158_6 {ls : ab_L} {st : List Value} {w : ab_W} (h : ab_isR (ls 0) = true) : ab_Run ab_mt 158 6 ls st w = ab_Run ab_mt 158 7 ls (ab_gv (ls 0) :: st) w := E_loadr (n := 1) rfl h
theorem e_158_7 {ls : ab_L} {st : List Value} {w : ab_W} (h : ab_isR (ls 0) = true) : ab_Run ab_mt 158 7 ls st w = ab_Run ab_mt 158 8 ls (ab_gv (ls 0) :: st) w := E_loadr (n := 1) rfl h
theorem e_158_8 {ls : ab_L} {st : List Value} {w : ab_W} {a : Nat} (h : ab_isF 7 10 (w.2 a) = true) : ab_Run ab_mt 158 8 ls (.ref a :: st) w = ab_Run ab_mt 158 11 ls (ab_fv 10 (w.2 a) :: st) w := E_get rfl h
theorem e_158_11 {ls : ab_L} {st : List Value} {w : ab_W} {v0 v1 : Value} (h1 : ab_recv ab_mt 113 [v0, v1] w.2 = true) (h8 : ab_w8 st = true) : ab_Run ab_mt 158 11 ls (v1 :: v0 :: st) w = ab_aft 113 158 11 ls st (ab_Cl 113 [v0, v1] w) := E_call2 rfl h1 h8
theorem e_158_14 {ls : ab_L} {st : List Value} {w : ab_W} {x y : Int32} : ab_Run ab_mt 158 14 ls (.int y :: .int x :: st) w = if x < y then ab_Run ab_mt 158 21 ls st w else ab_Run ab_mt 158 17 ls st w := E_ic_lt rfl
theorem e_158_17 {ls : ab_L} {st : List Value} {w : ab_W} : ab_Run ab_mt 158 17 ls st w = ab_Run ab_mt 158 18 ls (.int (nI 1) :: st) w := E_push (n := 1) rfl
theorem e_158_18 {ls : ab_L} {st : List Value} {w : ab_W} : ab_Run ab_mt 158 18 ls st w = ab_Run ab_mt 158 22 ls st w := E_goto rfl
theorem e_158_21 {ls : ab_L} {st : List Value} {w : ab_W} : ab_Run ab_mt 158 21 ls st w = ab_Run ab_mt 158 22 ls (.int (nI 0) :: st) w := E_push (n := 1) rfl
theorem e_158_22 {ls : ab_L} {w : ab_W} {x : Int32} (h : ab_fitr 2 (.int x) = true) : ab_Run ab_mt 158 22 ls [.int x] w = some (.inl (some (.int x)), w) := E_retz rfl h
theorem rv_158 {σ : ab_S} {t : Nat} {x0 : Int32} : ab_recv ab_mt 158 [.ref t, .int x0] σ = ab_isO 7 (σ t) := rfl
theorem e_159_0 {ls : ab_L} {st : List Value} {w : ab_W} (h : ab_isI (ls 2) = true) : ab_Run ab_mt 159 0 ls st w = ab_Run ab_mt 159 1 ls (ab_gv (ls 2) :: st) w := E_loadi (n := 1) rfl h
theorem e_159_1 {ls : ab_L} {st : List Value} {w : ab_W} {x : Int32} : ab_Run ab_mt 159 1 ls (.int x :: st) w = ab_Run ab_mt 159 2 ls (.long x.toInt64 :: st) w := E_i2l rfl
theorem e_159_2 {ls : ab_L} {st : List Value} {w : ab_W} : ab_Run ab_mt 159 2 ls st w = ab_Run ab_mt 159 3 ls (.long (lN 0) :: st) w := E_push (n := 1) rfl
theorem e_159_3 {ls : ab_L} {st : List Value} {w : ab_W} : ab_Run ab_mt 159 3 ls st w = ab_Run ab_mt 159 6 ls (.long (lN 8) :: st) w := E_push (n := 3) rfl
theorem e_159_6 {ls : ab_L} {st : List Value} {w : ab_W} {v0 v1 v2 : Value} (h1 : ab_recv ab_mt 107 [v0, v1, v2] w.2 = true) (h8 : ab_w8 st = true) : ab_Run ab_mt 159 6 ls (v2 :: v1 :: v0 :: st) w = ab_aft 107 159 6 ls st (ab_Cl 107 [v0, v1, v2] w) := E_call3 rfl h1 h8
theorem e_159_9 {ls : ab_L} {st : List Value} {w : ab_W} {x : Int32} : ab_Run ab_mt 159 9 ls (.int x :: st) w = if x = 0 then ab_Run ab_mt 159 30 ls st w else ab_Run ab_mt 159 12 ls st w := E_if_eq rfl
theorem e_159_12 {ls : ab_L} {st : List Value} {w : ab_W} (h : ab_isI (ls 3) = true) : ab_Run ab_mt 159 12 ls st w = ab_Run ab_mt 159 13 ls (ab_gv (ls 3) :: st) w := E_loadi (n := 1) rfl h
theorem e_159_13 {ls : ab_L} {st : List Value} {w : ab_W} {x : Int32} : ab_Run ab_mt 159 13 ls (.int x :: st) w = ab_Run ab_mt 159 14 ls (.long x.toInt64 :: st) w := E_i2l rfl
theorem e_159_14 {ls : ab_L} {st : List Value} {w : ab_W} : ab_Run ab_mt 159 14 ls st w = ab_Run ab_mt 159 17 ls (.long (lN 50) :: st) w := E_push (n := 3) rfl
theorem e_159_17 {ls : ab_L} {st : List Value} {w : ab_W} : ab_Run ab_mt 159 17 ls st w = ab_Run ab_mt 159 20 ls (.long (lN 200) :: st) w := E_push (n := 3) rfl
theorem e_159_20 {ls : ab_L} {st : List Value} {w : ab_W} {v0 v1 v2 : Value} (h1 : ab_recv ab_mt 107 [v0, v1, v2] w.2 = true) (h8 : ab_w8 st = true) : ab_Run ab_mt 159 20 ls (v2 :: v1 :: v0 :: st) w = ab_aft 107 159 20 ls st (ab_Cl 107 [v0, v1, v2] w) := E_call3 rfl h1 h8
theorem e_159_23 {ls : ab_L} {st : List Value} {w : ab_W} {x : Int32} : ab_Run ab_mt 159 23 ls (.int x :: st) w = if x = 0 then ab_Run ab_mt 159 30 ls st w else ab_Run ab_mt 159 26 ls st w := E_if_eq rfl
theorem e_159_26 {ls : ab_L} {st : List Value} {w : ab_W} : ab_Run ab_mt 159 26 ls st w = ab_Run ab_mt 159 27 ls (.int (nI 1) :: st) w := E_push (n := 1) rfl
theorem e_159_27 {ls : ab_L} {st : List Value} {w : ab_W} : ab_Run ab_mt 159 27 ls st w = ab_Run ab_mt 159 31 ls st w := E_goto rfl
theorem e_159_30 {ls : ab_L} {st : List Value} {w : ab_W} : ab_Run ab_mt 159 30 ls st w = ab_Run ab_mt 159 31 ls (.int (nI 0) :: st) w := E_push (n := 1) rfl
theorem e_159_31 {ls : ab_L} {st : List Value} {w : ab_W} {x : Int32} : ab_Run ab_mt 159 31 ls (.int x :: st) w = ab_Run ab_mt 159 33 (ab_l1 ls 4 (.int x)) st w := E_stori (n := 2) rfl
theorem e_159_33 {ls : ab_L} {st : List Value} {w : ab_W} (h : ab_isR (ls 0) = true) : ab_Run ab_mt 159 33 ls st w = ab_Run ab_mt 159 34 ls (ab_gv (ls 0) :: st) w := E_loadr (n := 1) rfl h
theorem e_159_34 {ls : ab_L} {st : List Value} {w : ab_W} (h : ab_isR (ls 0) = true) : ab_Run ab_mt 159 34 ls st w = ab_Run ab_mt 159 35 ls (ab_gv (ls 0) :: st) w := E_loadr (n := 1) rfl h
theorem e_159_35 {ls : ab_L} {st : List Value} {w : ab_W} (h : ab_isI (ls 1) = true) : ab_Run ab_mt 159 35 ls st w = ab_Run ab_mt 159 36 ls (ab_gv (ls 1) :: st) w := E_loadi (n := 1) rfl h
theorem e_159_36 {ls : ab_L} {st : List Value} {w : ab_W} {v0 v1 : Value} (h1 : ab_recv ab_mt 112 [v0, v1] w.2 = true) (h8 : ab_w8 st = true) : ab_Run ab_mt 159 36 ls (v1 :: v0 :: st) w = ab_aft 112 159 36 ls st (ab_Cl 112 [v0, v1] w) := E_call2 rfl h1 h8
theorem e_159_39 {ls : ab_L} {st : List Value} {w : ab_W} {x : Int32} : ab_Run ab_mt 159 39 ls (.int x :: st) w = if x = 0 then ab_Run ab_mt 159 42 ls st w else ab_Run ab_mt 159 46 ls st w := E_if_ne rfl
theorem e_159_42 {ls : ab_L} {st : List Value} {w : ab_W} : ab_Run ab_mt 159 42 ls st w = ab_Run ab_mt 159 43 ls (.int (nI 1) :: st) w := E_push (n := 1) rfl
theorem e_159_43 {ls : ab_L} {st : List Value} {w : ab_W} : ab_Run ab_mt 159 43 ls st w = ab_Run ab_mt 159 67 ls st w := E_goto rfl
theorem e_159_46 {ls : ab_L} {st : List Value} {w : ab_W} (h : ab_isI (ls 4) = true) : ab_Run ab_mt 159 46 ls st w = ab_Run ab_mt 159 48 ls (ab_gv (ls 4) :: st) w := E_loadi (n := 2) rfl h
theorem e_159_48 {ls : ab_L} {st : List Value} {w : ab_W} {x : Int32} : ab_Run ab_mt 159 48 ls (.int x :: st) w = if x = 0 then ab_Run ab_mt 159 51 ls st w else ab_Run ab_mt 159 55 ls st w := E_if_ne rfl
theorem e_159_51 {ls : ab_L} {st : List Value} {w : ab_W} : ab_Run ab_mt 159 51 ls st w = ab_Run ab_mt 159 52 ls (.int (nI 2) :: st) w := E_push (n := 1) rfl
theorem e_159_52 {ls : ab_L} {st : List Value} {w : ab_W} : ab_Run ab_mt 159 52 ls st w = ab_Run ab_mt 159 67 ls st w := E_goto rfl
theorem e_159_55 {ls : ab_L} {st : List Value} {w : ab_W} (h : ab_isR (ls 0) = true) : ab_Run ab_mt 159 55 ls st w = ab_Run ab_mt 159 56 ls (ab_gv (ls 0) :: st) w := E_loadr (n := 1) rfl h
theorem e_159_56 {ls : ab_L} {st : List Value} {w : ab_W} {a : Nat} (h : ab_isF 7 9 (w.2 a) = true) : ab_Run ab_mt 159 56 ls (.ref a :: st) w = ab_Run ab_mt 159 59 ls (ab_fv 9 (w.2 a) :: st) w := E_get rfl h
theorem e_159_59 {ls : ab_L} {st : List Value} {w : ab_W} {x : Int32} : ab_Run ab_mt 159 59 ls (.int x :: st) w = if x = 0 then ab_Run ab_mt 159 66 ls st w else ab_Run ab_mt 159 62 ls st w := E_if_eq rfl
theorem e_159_62 {ls : ab_L} {st : List Value} {w : ab_W} : ab_Run ab_mt 159 62 ls st w = ab_Run ab_mt 159 63 ls (.int (nI 3) :: st) w := E_push (n := 1) rfl
theorem e_159_63 {ls : ab_L} {st : List Value} {w : ab_W} : ab_Run ab_mt 159 63 ls st w = ab_Run ab_mt 159 67 ls st w := E_goto rfl
theorem e_159_66 {ls : ab_L} {st : List Value} {w : ab_W} : ab_Run ab_mt 159 66 ls st w = ab_Run ab_mt 159 67 ls (.int (nI 0) :: st) w := E_push (n := 1) rfl
theorem e_159_67 {ls : ab_L} {st : List Value} {w : ab_W} {a : Nat} {x : Int32} (h : ab_isF 7 0 (w.2 a) = true) : ab_Run ab_mt 159 67 ls (.int x :: .ref a :: st) w = ab_Run ab_mt 159 70 ls st (w.1, ab_up w.2 a (ab_sf 0 (.int x) (w.2 a))) := E_put rfl h rfl
theorem e_159_70 {ls : ab_L} {st : List Value} {w : ab_W} (h : ab_isR (ls 0) = true) : ab_Run ab_mt 159 70 ls st w = ab_Run ab_mt 159 71 ls (ab_gv (ls 0) :: st) w := E_loadr (n := 1) rfl h
theorem e_159_71 {ls : ab_L} {st : List Value} {w : ab_W} {a : Nat} (h : ab_isF 7 0 (w.2 a) = true) : ab_Run ab_mt 159 71 ls (.ref a :: st) w = ab_Run ab_mt 159 74 ls (ab_fv 0 (w.2 a) :: st) w := E_get rfl h
theorem e_159_74 {ls : ab_L} {st : List Value} {w : ab_W} {x : Int32} : ab_Run ab_mt 159 74 ls (.int x :: st) w = if x ≤ 0 then ab_Run ab_mt 159 79 ls st w else ab_Run ab_mt 159 77 ls st w := E_if_le rfl
theorem e_159_77 {ls : ab_L} {st : List Value} {w : ab_W} : ab_Run ab_mt 159 77 ls st w = ab_Run ab_mt 159 78 ls (.long (lN 0) :: st) w := E_push (n := 1) rfl
theorem e_159_78 {ls : ab_L} {w : ab_W} {x : Int64} : ab_Run ab_mt 159 78 ls [.long x] w = some (.inl (some (.long x)), w) := E_retl rfl
theorem e_159_79 {ls : ab_L} {st : List Value} {w : ab_W} (h : ab_isR (ls 0) = true) : ab_Run ab_mt 159 79 ls st w = ab_Run ab_mt 159 80 ls (ab_gv (ls 0) :: st) w := E_loadr (n := 1) rfl h
theorem e_159_80 {ls : ab_L} {st : List Value} {w : ab_W} : ab_Run ab_mt 159 80 ls st w = ab_Run ab_mt 159 81 ls (.int (nI 1) :: st) w := E_push (n := 1) rfl
theorem e_159_81 {ls : ab_L} {st : List Value} {w : ab_W} {a : Nat} {x : Int32} (h : ab_isF 7 9 (w.2 a) = true) (h2 : ab_fit 2 (.int x) = true) : ab_Run ab_mt 159 81 ls (.int x :: .ref a :: st) w = ab_Run ab_mt 159 84 ls st (w.1, ab_up w.2 a (ab_sf 9 (.int x) (w.2 a))) := E_put rfl h h2
theorem e_159_84 {ls : ab_L} {st : List Value} {w : ab_W} (h : ab_isR (ls 0) = true) : ab_Run ab_mt 159 84 ls st w = ab_Run ab_mt 159 85 ls (ab_gv (ls 0) :: st) w := E_loadr (n := 1) rfl h
theorem e_159_85 {ls : ab_L} {st : List Value} {w : ab_W} (h : ab_isI (ls 1) = true) : ab_Run ab_mt 159 85 ls st w = ab_Run ab_mt 159 86 ls (ab_gv (ls 1) :: st) w := E_loadi (n := 1) rfl h
theorem e_159_86 {ls : ab_L} {st : List Value} {w : ab_W} {a : Nat} {x : Int32} (h : ab_isF 7 10 (w.2 a) = true) : ab_Run ab_mt 159 86 ls (.int x :: .ref a :: st) w = ab_Run ab_mt 159 89 ls st (w.1, ab_up w.2 a (ab_sf 10 (.int x) (w.2 a))) := E_put rfl h rfl
theorem e_159_89 {ls : ab_L} {st : List Value} {w : ab_W} (h : ab_isR (ls 0) = true) : ab_Run ab_mt 159 89 ls st w = ab_Run ab_mt 159 90 ls (ab_gv (ls 0) :: st) w := E_loadr (n := 1) rfl h
theorem e_159_90 {ls : ab_L} {st : List Value} {w : ab_W} (h : ab_isI (ls 2) = true) : ab_Run ab_mt 159 90 ls st w = ab_Run ab_mt 159 91 ls (ab_gv (ls 2) :: st) w := E_loadi (n := 1) rfl h
theorem e_159_91 {ls : ab_L} {st : List Value} {w : ab_W} {a : Nat} {x : Int32} (h : ab_isF 7 11 (w.2 a) = true) : ab_Run ab_mt 159 91 ls (.int x :: .ref a :: st) w = ab_Run ab_mt 159 94 ls st (w.1, ab_up w.2 a (ab_sf 11 (.int x) (w.2 a))) := E_put rfl h rfl
theorem e_159_94 {ls : ab_L} {st : List Value} {w : ab_W} (h : ab_isR (ls 0) = true) : ab_Run ab_mt 159 94 ls st w = ab_Run ab_mt 159 95 ls (ab_gv (ls 0) :: st) w := E_loadr (n := 1) rfl h
theorem e_159_95 {ls : ab_L} {st : List Value} {w : ab_W} (h : ab_isI (ls 3) = true) : ab_Run ab_mt 159 95 ls st w = ab_Run ab_mt 159 96 ls (ab_gv (ls 3) :: st) w := E_loadi (n := 1) rfl h
theorem e_159_96 {ls : ab_L} {st : List Value} {w : ab_W} {a : Nat} {x : Int32} (h : ab_isF 7 12 (w.2 a) = true) : ab_Run ab_mt 159 96 ls (.int x :: .ref a :: st) w = ab_Run ab_mt 159 99 ls st (w.1, ab_up w.2 a (ab_sf 12 (.int x) (w.2 a))) := E_put rfl h rfl
theorem e_159_99 {ls : ab_L} {st : List Value} {w : ab_W} (h : ab_isR (ls 0) = true) : ab_Run ab_mt 159 99 ls st w = ab_Run ab_mt 159 100 ls (ab_gv (ls 0) :: st) w := E_loadr (n := 1) rfl h
theorem e_159_100 {ls : ab_L} {st : List Value} {w : ab_W} : ab_Run ab_mt 159 100 ls st w = ab_Run ab_mt 159 101 ls (.long (lN 0) :: st) w := E_push (n := 1) rfl
theorem e_159_101 {ls : ab_L} {st : List Value} {w : ab_W} {a : Nat} {x : Int64} (h : ab_isF 7 13 (w.2 a) = true) : ab_Run ab_mt 159 101 ls (.long x :: .ref a :: st) w = ab_Run ab_mt 159 104 ls st (w.1, ab_up w.2 a (ab_sf 13 (.long x) (w.2 a))) := E_put rfl h rfl
theorem e_159_104 {ls : ab_L} {st : List Value} {w : ab_W} (h : ab_isR (ls 0) = true) : ab_Run ab_mt 159 104 ls st w = ab_Run ab_mt 159 105 ls (ab_gv (ls 0) :: st) w := E_loadr (n := 1) rfl h
theorem e_159_105 {ls : ab_L} {st : List Value} {w : ab_W} {v0 : Value} (h1 : ab_recv ab_mt 122 [v0] w.2 = true) (h8 : ab_w8 st = true) : ab_Run ab_mt 159 105 ls (v0 :: st) w = ab_aft 122 159 105 ls st (ab_Cl 122 [v0] w) := E_call1 rfl h1 h8
theorem e_159_108 {ls : ab_L} {st : List Value} {w : ab_W} (h : ab_isR (ls 0) = true) : ab_Run ab_mt 159 108 ls st w = ab_Run ab_mt 159 109 ls (ab_gv (ls 0) :: st) w := E_loadr (n := 1) rfl h
theorem e_159_109 {ls : ab_L} {st : List Value} {w : ab_W} (h : ab_isR (ls 0) = true) : ab_Run ab_mt 159 109 ls st w = ab_Run ab_mt 159 110 ls (ab_gv (ls 0) :: st) w := E_loadr (n := 1) rfl h
theorem e_159_110 {ls : ab_L} {st : List Value} {w : ab_W} {a : Nat} (h : ab_isF 7 17 (w.2 a) = true) : ab_Run ab_mt 159 110 ls (.ref a :: st) w = ab_Run ab_mt 159 113 ls (ab_fv 17 (w.2 a) :: st) w := E_get rfl h
theorem e_159_113 {ls : ab_L} {st : List Value} {w : ab_W} {v0 v1 : Value} (h1 : ab_recv ab_mt 155 [v0, v1] w.2 = true) (h8 : ab_w8 st = true) : ab_Run ab_mt 159 113 ls (v1 :: v0 :: st) w = ab_aft 155 159 113 ls st (ab_Cl 155 [v0, v1] w) := E_call2 rfl h1 h8
theorem e_159_116 {ls : ab_L} {w : ab_W} {x : Int64} : ab_Run ab_mt 159 116 ls [.long x] w = some (.inl (some (.long x)), w) := E_retl rfl
theorem rv_159 {σ : ab_S} {t : Nat} {x0 : Int32} {x1 : Int32} {x2 : Int32} : ab_recv ab_mt 159 [.ref t, .int x0, .int x1, .int x2] σ = ab_isO 7 (σ t) := rfl
theorem x_159_105 {ls : ab_L} {rest : List Value} {E : Nat} {w : ab_W} : ab_aft 122 159 105 ls rest (some (.inr E, w)) = some (.inr E, w) := ab_aft_x rfl rfl (by unfold ab_hand; rfl)
theorem e_160_0 {ls : ab_L} {st : List Value} {w : ab_W} : ab_Run ab_mt 160 0 ls st w = ab_Run ab_mt 160 1 ls (.int (nI 0) :: st) w := E_push (n := 1) rfl
theorem e_160_1 {ls : ab_L} {st : List Value} {w : ab_W} {x : Int32} : ab_Run ab_mt 160 1 ls (.int x :: st) w = ab_Run ab_mt 160 3 (ab_l1 ls 4 (.int x)) st w := E_stori (n := 2) rfl
theorem e_160_3 {ls : ab_L} {st : List Value} {w : ab_W} : ab_Run ab_mt 160 3 ls st w = ab_Run ab_mt 160 4 ls (.int (nI 0) :: st) w := E_push (n := 1) rfl
theorem e_160_4 {ls : ab_L} {st : List Value} {w : ab_W} {x : Int32} : ab_Run ab_mt 160 4 ls (.int x :: st) w = ab_Run ab_mt 160 6 (ab_l1 ls 5 (.int x)) st w := E_stori (n := 2) rfl
theorem e_160_6 {ls : ab_L} {st : List Value} {w : ab_W} (h : ab_isI (ls 5) = true) : ab_Run ab_mt 160 6 ls st w = ab_Run ab_mt 160 8 ls (ab_gv (ls 5) :: st) w := E_loadi (n := 2) rfl h
theorem e_160_8 {ls : ab_L} {st : List Value} {w : ab_W} (h : ab_isR (ls 0) = true) : ab_Run ab_mt 160 8 ls st w = ab_Run ab_mt 160 9 ls (ab_gv (ls 0) :: st) w := E_loadr (n := 1) rfl h
theorem e_160_9 {ls : ab_L} {st : List Value} {w : ab_W} {a : Nat} (h : ab_isF 7 11 (w.2 a) = true) : ab_Run ab_mt 160 9 ls (.ref a :: st) w = ab_Run ab_mt 160 12 ls (ab_fv 11 (w.2 a) :: st) w := E_get rfl h
theorem e_160_12 {ls : ab_L} {st : List Value} {w : ab_W} {x y : Int32} : ab_Run ab_mt 160 12 ls (.int y :: .int x :: st) w = if y ≤ x then ab_Run ab_mt 160 46 ls st w else ab_Run ab_mt 160 15 ls st w := E_ic_ge rfl
theorem e_160_15 {ls : ab_L} {st : List Value} {w : ab_W} (h : ab_isI (ls 3) = true) : ab_Run ab_mt 160 15 ls st w = ab_Run ab_mt 160 16 ls (ab_gv (ls 3) :: st) w := E_loadi (n := 1) rfl h
theorem e_160_16 {ls : ab_L} {st : List Value} {w : ab_W} {x : Int32} : ab_Run ab_mt 160 16 ls (.int x :: st) w = if x = 0 then ab_Run ab_mt 160 19 ls st w else ab_Run ab_mt 160 46 ls st w := E_if_ne rfl
theorem e_160_19 {ls : ab_L} {st : List Value} {w : ab_W} (h : ab_isI (ls 4) = true) : ab_Run ab_mt 160 19 ls st w = ab_Run ab_mt 160 21 ls (ab_gv (ls 4) :: st) w := E_loadi (n := 2) rfl h
theorem e_160_21 {ls : ab_L} {st : List Value} {w : ab_W} (h : ab_isR (ls 0) = true) : ab_Run ab_mt 160 21 ls st w = ab_Run ab_mt 160 22 ls (ab_gv (ls 0) :: st) w := E_loadr (n := 1) rfl h
theorem e_160_22 {ls : ab_L} {st : List Value} {w : ab_W} (h : ab_isI (ls 5) = true) : ab_Run ab_mt 160 22 ls st w = ab_Run ab_mt 160 24 ls (ab_gv (ls 5) :: st) w := E_loadi (n := 2) rfl h
theorem e_160_24 {ls : ab_L} {st : List Value} {w : ab_W} {v0 v1 : Value} (h1 : ab_recv ab_mt 156 [v0, v1] w.2 = true) (h8 : ab_w8 st = true) : ab_Run ab_mt 160 24 ls (v1 :: v0 :: st) w = ab_aft 156 160 24 ls st (ab_Cl 156 [v0, v1] w) := E_call2 rfl h1 h8
theorem e_160_27 {ls : ab_L} {st : List Value} {w : ab_W} (h : ab_isL (ls 1) = true) (h2 : (ls 2).isNone = true) : ab_Run ab_mt 160 27 ls st w = ab_Run ab_mt 160 28 ls (ab_gv (ls 1) :: st) w := E_loadl (n := 1) rfl h h2
theorem e_160_28 {ls : ab_L} {st : List Value} {w : ab_W} {x y : Int64} : ab_Run ab_mt 160 28 ls (.long y :: .long x :: st) w = ab_Run ab_mt 160 29 ls (.int (lg_cmp x y) :: st) w := E_lcmp rfl
theorem e_160_29 {ls : ab_L} {st : List Value} {w : ab_W} {x : Int32} : ab_Run ab_mt 160 29 ls (.int x :: st) w = if 0 ≤ x then ab_Run ab_mt 160 36 ls st w else ab_Run ab_mt 160 32 ls st w := E_if_ge rfl
theorem e_160_32 {ls : ab_L} {st : List Value} {w : ab_W} : ab_Run ab_mt 160 32 ls st w = ab_Run ab_mt 160 33 ls (.int (nI 1) :: st) w := E_push (n := 1) rfl
theorem e_160_33 {ls : ab_L} {st : List Value} {w : ab_W} : ab_Run ab_mt 160 33 ls st w = ab_Run ab_mt 160 37 ls st w := E_goto rfl
theorem e_160_36 {ls : ab_L} {st : List Value} {w : ab_W} : ab_Run ab_mt 160 36 ls st w = ab_Run ab_mt 160 37 ls (.int (nI 0) :: st) w := E_push (n := 1) rfl
theorem e_160_37 {ls : ab_L} {st : List Value} {w : ab_W} {x y : Int32} : ab_Run ab_mt 160 37 ls (.int y :: .int x :: st) w = ab_Run ab_mt 160 38 ls (.int (x + y) :: st) w := E_ib (f := fun x y => x + y) rfl
theorem e_160_38 {ls : ab_L} {st : List Value} {w : ab_W} {x : Int32} : ab_Run ab_mt 160 38 ls (.int x :: st) w = ab_Run ab_mt 160 40 (ab_l1 ls 4 (.int x)) st w := E_stori (n := 2) rfl
theorem e_160_40 {ls : ab_L} {st : List Value} {w : ab_W} (h : ab_isI (ls 5) = true) : ab_Run ab_mt 160 40 ls st w = ab_Run ab_mt 160 43 (ab_l1 ls 5 (.int (ab_gi (ls 5) + (nI 1)))) st w := E_iinc rfl h
theorem e_160_43 {ls : ab_L} {st : List Value} {w : ab_W} : ab_Run ab_mt 160 43 ls st w = ab_Run ab_mt 160 6 ls st w := E_goto rfl
theorem e_160_46 {ls : ab_L} {st : List Value} {w : ab_W} (h : ab_isR (ls 0) = true) : ab_Run ab_mt 160 46 ls st w = ab_Run ab_mt 160 47 ls (ab_gv (ls 0) :: st) w := E_loadr (n := 1) rfl h
theorem e_160_47 {ls : ab_L} {st : List Value} {w : ab_W} {v0 : Value} (h1 : ab_recv ab_mt 114 [v0] w.2 = true) (h8 : ab_w8 st = true) : ab_Run ab_mt 160 47 ls (v0 :: st) w = ab_aft 114 160 47 ls st (ab_Cl 114 [v0] w) := E_call1 rfl h1 h8
theorem e_160_50 {ls : ab_L} {st : List Value} {w : ab_W} {x : Int32} : ab_Run ab_mt 160 50 ls (.int x :: st) w = ab_Run ab_mt 160 52 (ab_l1 ls 5 (.int x)) st w := E_stori (n := 2) rfl
theorem e_160_52 {ls : ab_L} {st : List Value} {w : ab_W} (h : ab_isR (ls 0) = true) : ab_Run ab_mt 160 52 ls st w = ab_Run ab_mt 160 53 ls (ab_gv (ls 0) :: st) w := E_loadr (n := 1) rfl h
theorem e_160_53 {ls : ab_L} {st : List Value} {w : ab_W} (h : ab_isR (ls 0) = true) : ab_Run ab_mt 160 53 ls st w = ab_Run ab_mt 160 54 ls (ab_gv (ls 0) :: st) w := E_loadr (n := 1) rfl h
theorem e_160_54 {ls : ab_L} {st : List Value} {w : ab_W} {a : Nat} (h : ab_isF 7 10 (w.2 a) = true) : ab_Run ab_mt 160 54 ls (.ref a :: st) w = ab_Run ab_mt 160 57 ls (ab_fv 10 (w.2 a) :: st) w := E_get rfl h
theorem e_160_57 {ls : ab_L} {st : List Value} {w : ab_W} {v0 v1 : Value} (h1 : ab_recv ab_mt 113 [v0, v1] w.2 = true) (h8 : ab_w8 st = true) : ab_Run ab_mt 160 57 ls (v1 :: v0 :: st) w = ab_aft 113 160 57 ls st (ab_Cl 113 [v0, v1] w) := E_call2 rfl h1 h8
theorem e_160_60 {ls : ab_L} {st : List Value} {w : ab_W} {x : Int32} : ab_Run ab_mt 160 60 ls (.int x :: st) w = ab_Run ab_mt 160 62 (ab_l1 ls 6 (.int x)) st w := E_stori (n := 2) rfl
theorem e_160_62 {ls : ab_L} {st : List Value} {w : ab_W} (h : ab_isI (ls 6) = true) : ab_Run ab_mt 160 62 ls st w = ab_Run ab_mt 160 64 ls (ab_gv (ls 6) :: st) w := E_loadi (n := 2) rfl h
theorem e_160_64 {ls : ab_L} {st : List Value} {w : ab_W} (h : ab_isI (ls 5) = true) : ab_Run ab_mt 160 64 ls st w = ab_Run ab_mt 160 66 ls (ab_gv (ls 5) :: st) w := E_loadi (n := 2) rfl h
theorem e_160_66 {ls : ab_L} {st : List Value} {w : ab_W} {x y : Int32} : ab_Run ab_mt 160 66 ls (.int y :: .int x :: st) w = if y ≤ x then ab_Run ab_mt 160 153 ls st w else ab_Run ab_mt 160 69 ls st w := E_ic_ge rfl
theorem e_160_69 {ls : ab_L} {st : List Value} {w : ab_W} (h : ab_isI (ls 3) = true) : ab_Run ab_mt 160 69 ls st w = ab_Run ab_mt 160 70 ls (ab_gv (ls 3) :: st) w := E_loadi (n := 1) rfl h
theorem e_160_70 {ls : ab_L} {st : List Value} {w : ab_W} {x : Int32} : ab_Run ab_mt 160 70 ls (.int x :: st) w = if x = 0 then ab_Run ab_mt 160 90 ls st w else ab_Run ab_mt 160 73 ls st w := E_if_eq rfl
theorem e_160_73 {ls : ab_L} {st : List Value} {w : ab_W} (h : ab_isR (ls 0) = true) : ab_Run ab_mt 160 73 ls st w = ab_Run ab_mt 160 74 ls (ab_gv (ls 0) :: st) w := E_loadr (n := 1) rfl h
theorem e_160_74 {ls : ab_L} {st : List Value} {w : ab_W} (h : ab_isI (ls 6) = true) : ab_Run ab_mt 160 74 ls st w = ab_Run ab_mt 160 76 ls (ab_gv (ls 6) :: st) w := E_loadi (n := 2) rfl h
theorem e_160_76 {ls : ab_L} {st : List Value} {w : ab_W} {v0 v1 : Value} (h1 : ab_recv ab_mt 125 [v0, v1] w.2 = true) (h8 : ab_w8 st = true) : ab_Run ab_mt 160 76 ls (v1 :: v0 :: st) w = ab_aft 125 160 76 ls st (ab_Cl 125 [v0, v1] w) := E_call2 rfl h1 h8
theorem e_160_79 {ls : ab_L} {st : List Value} {w : ab_W} {x : Int32} : ab_Run ab_mt 160 79 ls (.int x :: st) w = if x = 0 then ab_Run ab_mt 160 86 ls st w else ab_Run ab_mt 160 82 ls st w := E_if_eq rfl
theorem e_160_82 {ls : ab_L} {st : List Value} {w : ab_W} : ab_Run ab_mt 160 82 ls st w = ab_Run ab_mt 160 83 ls (.int (nI 1) :: st) w := E_push (n := 1) rfl
theorem e_160_83 {ls : ab_L} {st : List Value} {w : ab_W} : ab_Run ab_mt 160 83 ls st w = ab_Run ab_mt 160 102 ls st w := E_goto rfl
theorem e_160_86 {ls : ab_L} {st : List Value} {w : ab_W} : ab_Run ab_mt 160 86 ls st w = ab_Run ab_mt 160 87 ls (.int (nI 0) :: st) w := E_push (n := 1) rfl
theorem e_160_87 {ls : ab_L} {st : List Value} {w : ab_W} : ab_Run ab_mt 160 87 ls st w = ab_Run ab_mt 160 102 ls st w := E_goto rfl
theorem e_160_90 {ls : ab_L} {st : List Value} {w : ab_W} (h : ab_isR (ls 0) = true) : ab_Run ab_mt 160 90 ls st w = ab_Run ab_mt 160 91 ls (ab_gv (ls 0) :: st) w := E_loadr (n := 1) rfl h
theorem e_160_91 {ls : ab_L} {st : List Value} {w : ab_W} (h : ab_isR (ls 0) = true) : ab_Run ab_mt 160 91 ls st w = ab_Run ab_mt 160 92 ls (ab_gv (ls 0) :: st) w := E_loadr (n := 1) rfl h
theorem e_160_92 {ls : ab_L} {st : List Value} {w : ab_W} {a : Nat} (h : ab_isF 7 14 (w.2 a) = true) : ab_Run ab_mt 160 92 ls (.ref a :: st) w = ab_Run ab_mt 160 95 ls (ab_fv 14 (w.2 a) :: st) w := E_get rfl h
theorem e_160_95 {ls : ab_L} {st : List Value} {w : ab_W} (h : ab_isI (ls 6) = true) : ab_Run ab_mt 160 95 ls st w = ab_Run ab_mt 160 97 ls (ab_gv (ls 6) :: st) w := E_loadi (n := 2) rfl h
theorem e_160_97 {ls : ab_L} {st : List Value} {w : ab_W} {a : Nat} {i : Int32} (h : ab_inI i (w.2 a) = true) : ab_Run ab_mt 160 97 ls (.int i :: .ref a :: st) w = ab_Run ab_mt 160 98 ls (.int (ab_aI i.toNatClampNeg (w.2 a)) :: st) w := E_iald rfl h
theorem e_160_98 {ls : ab_L} {st : List Value} {w : ab_W} : ab_Run ab_mt 160 98 ls st w = ab_Run ab_mt 160 99 ls (.int (nI 1) :: st) w := E_push (n := 1) rfl
theorem e_160_99 {ls : ab_L} {st : List Value} {w : ab_W} {v0 v1 v2 : Value} (h1 : ab_recv ab_mt 109 [v0, v1, v2] w.2 = true) (h8 : ab_w8 st = true) : ab_Run ab_mt 160 99 ls (v2 :: v1 :: v0 :: st) w = ab_aft 109 160 99 ls st (ab_Cl 109 [v0, v1, v2] w) := E_call3 rfl h1 h8
theorem e_160_102 {ls : ab_L} {st : List Value} {w : ab_W} {x : Int32} : ab_Run ab_mt 160 102 ls (.int x :: st) w = ab_Run ab_mt 160 104 (ab_l1 ls 7 (.int x)) st w := E_stori (n := 2) rfl
theorem e_160_104 {ls : ab_L} {st : List Value} {w : ab_W} : ab_Run ab_mt 160 104 ls st w = ab_Run ab_mt 160 105 ls (.int (nI 0) :: st) w := E_push (n := 1) rfl
theorem e_160_105 {ls : ab_L} {st : List Value} {w : ab_W} {x : Int32} : ab_Run ab_mt 160 105 ls (.int x :: st) w = ab_Run ab_mt 160 107 (ab_l1 ls 8 (.int x)) st w := E_stori (n := 2) rfl
theorem e_160_107 {ls : ab_L} {st : List Value} {w : ab_W} (h : ab_isI (ls 8) = true) : ab_Run ab_mt 160 107 ls st w = ab_Run ab_mt 160 109 ls (ab_gv (ls 8) :: st) w := E_loadi (n := 2) rfl h
theorem e_160_109 {ls : ab_L} {st : List Value} {w : ab_W} (h : ab_isI (ls 7) = true) : ab_Run ab_mt 160 109 ls st w = ab_Run ab_mt 160 111 ls (ab_gv (ls 7) :: st) w := E_loadi (n := 2) rfl h
theorem e_160_111 {ls : ab_L} {st : List Value} {w : ab_W} {x y : Int32} : ab_Run ab_mt 160 111 ls (.int y :: .int x :: st) w = if y ≤ x then ab_Run ab_mt 160 147 ls st w else ab_Run ab_mt 160 114 ls st w := E_ic_ge rfl
theorem e_160_114 {ls : ab_L} {st : List Value} {w : ab_W} (h : ab_isI (ls 4) = true) : ab_Run ab_mt 160 114 ls st w = ab_Run ab_mt 160 116 ls (ab_gv (ls 4) :: st) w := E_loadi (n := 2) rfl h
theorem e_160_116 {ls : ab_L} {st : List Value} {w : ab_W} (h : ab_isR (ls 0) = true) : ab_Run ab_mt 160 116 ls st w = ab_Run ab_mt 160 117 ls (ab_gv (ls 0) :: st) w := E_loadr (n := 1) rfl h
theorem e_160_117 {ls : ab_L} {st : List Value} {w : ab_W} (h : ab_isR (ls 0) = true) : ab_Run ab_mt 160 117 ls st w = ab_Run ab_mt 160 118 ls (ab_gv (ls 0) :: st) w := E_loadr (n := 1) rfl h
theorem e_160_118 {ls : ab_L} {st : List Value} {w : ab_W} (h : ab_isI (ls 6) = true) : ab_Run ab_mt 160 118 ls st w = ab_Run ab_mt 160 120 ls (ab_gv (ls 6) :: st) w := E_loadi (n := 2) rfl h
theorem e_160_120 {ls : ab_L} {st : List Value} {w : ab_W} (h : ab_isI (ls 8) = true) : ab_Run ab_mt 160 120 ls st w = ab_Run ab_mt 160 122 ls (ab_gv (ls 8) :: st) w := E_loadi (n := 2) rfl h
theorem e_160_122 {ls : ab_L} {st : List Value} {w : ab_W} {v0 v1 v2 : Value} (h1 : ab_recv ab_mt 123 [v0, v1, v2] w.2 = true) (h8 : ab_w8 st = true) : ab_Run ab_mt 160 122 ls (v2 :: v1 :: v0 :: st) w = ab_aft 123 160 122 ls st (ab_Cl 123 [v0, v1, v2] w) := E_call3 rfl h1 h8
theorem e_160_125 {ls : ab_L} {st : List Value} {w : ab_W} {v0 v1 : Value} (h1 : ab_recv ab_mt 155 [v0, v1] w.2 = true) (h8 : ab_w8 st = true) : ab_Run ab_mt 160 125 ls (v1 :: v0 :: st) w = ab_aft 155 160 125 ls st (ab_Cl 155 [v0, v1] w) := E_call2 rfl h1 h8
theorem e_160_128 {ls : ab_L} {st : List Value} {w : ab_W} (h : ab_isL (ls 1) = true) (h2 : (ls 2).isNone = true) : ab_Run ab_mt 160 128 ls st w = ab_Run ab_mt 160 129 ls (ab_gv (ls 1) :: st) w := E_loadl (n := 1) rfl h h2
theorem e_160_129 {ls : ab_L} {st : List Value} {w : ab_W} {x y : Int64} : ab_Run ab_mt 160 129 ls (.long y :: .long x :: st) w = ab_Run ab_mt 160 130 ls (.int (lg_cmp x y) :: st) w := E_lcmp rfl
theorem e_160_130 {ls : ab_L} {st : List Value} {w : ab_W} {x : Int32} : ab_Run ab_mt 160 130 ls (.int x :: st) w = if 0 ≤ x then ab_Run ab_mt 160 137 ls st w else ab_Run ab_mt 160 133 ls st w := E_if_ge rfl
theorem e_160_133 {ls : ab_L} {st : List Value} {w : ab_W} : ab_Run ab_mt 160 133 ls st w = ab_Run ab_mt 160 134 ls (.int (nI 1) :: st) w := E_push (n := 1) rfl
theorem e_160_134 {ls : ab_L} {st : List Value} {w : ab_W} : ab_Run ab_mt 160 134 ls st w = ab_Run ab_mt 160 138 ls st w := E_goto rfl
theorem e_160_137 {ls : ab_L} {st : List Value} {w : ab_W} : ab_Run ab_mt 160 137 ls st w = ab_Run ab_mt 160 138 ls (.int (nI 0) :: st) w := E_push (n := 1) rfl
theorem e_160_138 {ls : ab_L} {st : List Value} {w : ab_W} {x y : Int32} : ab_Run ab_mt 160 138 ls (.int y :: .int x :: st) w = ab_Run ab_mt 160 139 ls (.int (x + y) :: st) w := E_ib (f := fun x y => x + y) rfl
theorem e_160_139 {ls : ab_L} {st : List Value} {w : ab_W} {x : Int32} : ab_Run ab_mt 160 139 ls (.int x :: st) w = ab_Run ab_mt 160 141 (ab_l1 ls 4 (.int x)) st w := E_stori (n := 2) rfl
theorem e_160_141 {ls : ab_L} {st : List Value} {w : ab_W} (h : ab_isI (ls 8) = true) : ab_Run ab_mt 160 141 ls st w = ab_Run ab_mt 160 144 (ab_l1 ls 8 (.int (ab_gi (ls 8) + (nI 1)))) st w := E_iinc rfl h
theorem e_160_144 {ls : ab_L} {st : List Value} {w : ab_W} : ab_Run ab_mt 160 144 ls st w = ab_Run ab_mt 160 107 ls st w := E_goto rfl
theorem e_160_147 {ls : ab_L} {st : List Value} {w : ab_W} (h : ab_isI (ls 6) = true) : ab_Run ab_mt 160 147 ls st w = ab_Run ab_mt 160 150 (ab_l1 ls 6 (.int (ab_gi (ls 6) + (nI 1)))) st w := E_iinc rfl h
theorem e_160_150 {ls : ab_L} {st : List Value} {w : ab_W} : ab_Run ab_mt 160 150 ls st w = ab_Run ab_mt 160 62 ls st w := E_goto rfl
theorem e_160_153 {ls : ab_L} {st : List Value} {w : ab_W} (h : ab_isI (ls 4) = true) : ab_Run ab_mt 160 153 ls st w = ab_Run ab_mt 160 155 ls (ab_gv (ls 4) :: st) w := E_loadi (n := 2) rfl h
theorem e_160_155 {ls : ab_L} {w : ab_W} {x : Int32} : ab_Run ab_mt 160 155 ls [.int x] w = some (.inl (some (.int x)), w) := E_reti rfl
theorem rv_160 {σ : ab_S} {t : Nat} {x0 : Int64} {x1 : Int32} : ab_recv ab_mt 160 [.ref t, .long x0, .int x1] σ = ab_isO 7 (σ t) := rfl
theorem e_161_0 {ls : ab_L} {st : List Value} {w : ab_W} : ab_Run ab_mt 161 0 ls st w = ab_Run ab_mt 161 1 ls (.int (nI 0) :: st) w := E_push (n := 1) rfl
theorem e_161_1 {ls : ab_L} {st : List Value} {w : ab_W} {x : Int32} : ab_Run ab_mt 161 1 ls (.int x :: st) w = ab_Run ab_mt 161 2 (ab_l1 ls 3 (.int x)) st w := E_stori (n := 1) rfl
theorem e_161_2 {ls : ab_L} {st : List Value} {w : ab_W} : ab_Run ab_mt 161 2 ls st w = ab_Run ab_mt 161 3 ls (.int (nI 0) :: st) w := E_push (n := 1) rfl
theorem e_161_3 {ls : ab_L} {st : List Value} {w : ab_W} {x : Int32} : ab_Run ab_mt 161 3 ls (.int x :: st) w = ab_Run ab_mt 161 5 (ab_l1 ls 4 (.int x)) st w := E_stori (n := 2) rfl
theorem e_161_5 {ls : ab_L} {st : List Value} {w : ab_W} (h : ab_isI (ls 4) = true) : ab_Run ab_mt 161 5 ls st w = ab_Run ab_mt 161 7 ls (ab_gv (ls 4) :: st) w := E_loadi (n := 2) rfl h
theorem e_161_7 {ls : ab_L} {st : List Value} {w : ab_W} (h : ab_isR (ls 0) = true) : ab_Run ab_mt 161 7 ls st w = ab_Run ab_mt 161 8 ls (ab_gv (ls 0) :: st) w := E_loadr (n := 1) rfl h
theorem e_161_8 {ls : ab_L} {st : List Value} {w : ab_W} {a : Nat} (h : ab_isF 7 1 (w.2 a) = true) : ab_Run ab_mt 161 8 ls (.ref a :: st) w = ab_Run ab_mt 161 11 ls (ab_fv 1 (w.2 a) :: st) w := E_get rfl h
theorem e_161_11 {ls : ab_L} {st : List Value} {w : ab_W} : ab_Run ab_mt 161 11 ls st w = ab_Run ab_mt 161 14 ls (.int (nI 192) :: st) w := E_push (n := 3) rfl
theorem e_161_14 {ls : ab_L} {st : List Value} {w : ab_W} {a : Nat} {i : Int32} (h : ab_inI i (w.2 a) = true) : ab_Run ab_mt 161 14 ls (.int i :: .ref a :: st) w = ab_Run ab_mt 161 15 ls (.int (ab_aI i.toNatClampNeg (w.2 a)) :: st) w := E_iald rfl h
theorem e_161_15 {ls : ab_L} {st : List Value} {w : ab_W} {x y : Int32} : ab_Run ab_mt 161 15 ls (.int y :: .int x :: st) w = if y ≤ x then ab_Run ab_mt 161 52 ls st w else ab_Run ab_mt 161 18 ls st w := E_ic_ge rfl
theorem e_161_18 {ls : ab_L} {st : List Value} {w : ab_W} (h : ab_isI (ls 3) = true) : ab_Run ab_mt 161 18 ls st w = ab_Run ab_mt 161 19 ls (ab_gv (ls 3) :: st) w := E_loadi (n := 1) rfl h
theorem e_161_19 {ls : ab_L} {st : List Value} {w : ab_W} (h : ab_isR (ls 0) = true) : ab_Run ab_mt 161 19 ls st w = ab_Run ab_mt 161 20 ls (ab_gv (ls 0) :: st) w := E_loadr (n := 1) rfl h
theorem e_161_20 {ls : ab_L} {st : List Value} {w : ab_W} (h : ab_isI (ls 4) = true) : ab_Run ab_mt 161 20 ls st w = ab_Run ab_mt 161 22 ls (ab_gv (ls 4) :: st) w := E_loadi (n := 2) rfl h
theorem e_161_22 {ls : ab_L} {st : List Value} {w : ab_W} {v0 v1 : Value} (h1 : ab_recv ab_mt 158 [v0, v1] w.2 = true) (h8 : ab_w8 st = true) : ab_Run ab_mt 161 22 ls (v1 :: v0 :: st) w = ab_aft 158 161 22 ls st (ab_Cl 158 [v0, v1] w) := E_call2 rfl h1 h8
theorem e_161_25 {ls : ab_L} {st : List Value} {w : ab_W} {x : Int32} : ab_Run ab_mt 161 25 ls (.int x :: st) w = if x = 0 then ab_Run ab_mt 161 43 ls st w else ab_Run ab_mt 161 28 ls st w := E_if_eq rfl
theorem e_161_28 {ls : ab_L} {st : List Value} {w : ab_W} (h : ab_isR (ls 0) = true) : ab_Run ab_mt 161 28 ls st w = ab_Run ab_mt 161 29 ls (ab_gv (ls 0) :: st) w := E_loadr (n := 1) rfl h
theorem e_161_29 {ls : ab_L} {st : List Value} {w : ab_W} (h : ab_isI (ls 4) = true) : ab_Run ab_mt 161 29 ls st w = ab_Run ab_mt 161 31 ls (ab_gv (ls 4) :: st) w := E_loadi (n := 2) rfl h
theorem e_161_31 {ls : ab_L} {st : List Value} {w : ab_W} {v0 v1 : Value} (h1 : ab_recv ab_mt 157 [v0, v1] w.2 = true) (h8 : ab_w8 st = true) : ab_Run ab_mt 161 31 ls (v1 :: v0 :: st) w = ab_aft 157 161 31 ls st (ab_Cl 157 [v0, v1] w) := E_call2 rfl h1 h8
theorem e_161_34 {ls : ab_L} {st : List Value} {w : ab_W} (h : ab_isL (ls 1) = true) (h2 : (ls 2).isNone = true) : ab_Run ab_mt 161 34 ls st w = ab_Run ab_mt 161 35 ls (ab_gv (ls 1) :: st) w := E_loadl (n := 1) rfl h h2
theorem e_161_35 {ls : ab_L} {st : List Value} {w : ab_W} {x y : Int64} : ab_Run ab_mt 161 35 ls (.long y :: .long x :: st) w = ab_Run ab_mt 161 36 ls (.int (lg_cmp x y) :: st) w := E_lcmp rfl
theorem e_161_36 {ls : ab_L} {st : List Value} {w : ab_W} {x : Int32} : ab_Run ab_mt 161 36 ls (.int x :: st) w = if 0 ≤ x then ab_Run ab_mt 161 43 ls st w else ab_Run ab_mt 161 39 ls st w := E_if_ge rfl
theorem e_161_39 {ls : ab_L} {st : List Value} {w : ab_W} : ab_Run ab_mt 161 39 ls st w = ab_Run ab_mt 161 40 ls (.int (nI 1) :: st) w := E_push (n := 1) rfl
theorem e_161_40 {ls : ab_L} {st : List Value} {w : ab_W} : ab_Run ab_mt 161 40 ls st w = ab_Run ab_mt 161 44 ls st w := E_goto rfl
theorem e_161_43 {ls : ab_L} {st : List Value} {w : ab_W} : ab_Run ab_mt 161 43 ls st w = ab_Run ab_mt 161 44 ls (.int (nI 0) :: st) w := E_push (n := 1) rfl
theorem e_161_44 {ls : ab_L} {st : List Value} {w : ab_W} {x y : Int32} : ab_Run ab_mt 161 44 ls (.int y :: .int x :: st) w = ab_Run ab_mt 161 45 ls (.int (x + y) :: st) w := E_ib (f := fun x y => x + y) rfl
theorem e_161_45 {ls : ab_L} {st : List Value} {w : ab_W} {x : Int32} : ab_Run ab_mt 161 45 ls (.int x :: st) w = ab_Run ab_mt 161 46 (ab_l1 ls 3 (.int x)) st w := E_stori (n := 1) rfl
theorem e_161_46 {ls : ab_L} {st : List Value} {w : ab_W} (h : ab_isI (ls 4) = true) : ab_Run ab_mt 161 46 ls st w = ab_Run ab_mt 161 49 (ab_l1 ls 4 (.int (ab_gi (ls 4) + (nI 1)))) st w := E_iinc rfl h
theorem e_161_49 {ls : ab_L} {st : List Value} {w : ab_W} : ab_Run ab_mt 161 49 ls st w = ab_Run ab_mt 161 5 ls st w := E_goto rfl
theorem e_161_52 {ls : ab_L} {st : List Value} {w : ab_W} (h : ab_isI (ls 3) = true) : ab_Run ab_mt 161 52 ls st w = ab_Run ab_mt 161 53 ls (ab_gv (ls 3) :: st) w := E_loadi (n := 1) rfl h
theorem e_161_53 {ls : ab_L} {w : ab_W} {x : Int32} : ab_Run ab_mt 161 53 ls [.int x] w = some (.inl (some (.int x)), w) := E_reti rfl
theorem rv_161 {σ : ab_S} {t : Nat} {x0 : Int64} : ab_recv ab_mt 161 [.ref t, .long x0] σ = ab_isO 7 (σ t) := rfl
theorem e_162_0 {ls : ab_L} {st : List Value} {w : ab_W} (h : ab_isR (ls 0) = true) : ab_Run ab_mt 162 0 ls st w = ab_Run ab_mt 162 1 ls (ab_gv (ls 0) :: st) w := E_loadr (n := 1) rfl h
theorem e_162_1 {ls : ab_L} {st : List Value} {w : ab_W} (h : ab_isI (ls 1) = true) : ab_Run ab_mt 162 1 ls st w = ab_Run ab_mt 162 2 ls (ab_gv (ls 1) :: st) w := E_loadi (n := 1) rfl h
theorem e_162_2 {ls : ab_L} {st : List Value} {w : ab_W} {x : Int32} : ab_Run ab_mt 162 2 ls (.int x :: st) w = ab_Run ab_mt 162 3 ls (.long x.toInt64 :: st) w := E_i2l rfl
theorem e_162_3 {ls : ab_L} {st : List Value} {w : ab_W} : ab_Run ab_mt 162 3 ls st w = ab_Run ab_mt 162 4 ls (.long (lN 1) :: st) w := E_push (n := 1) rfl
theorem e_162_4 {ls : ab_L} {st : List Value} {w : ab_W} : ab_Run ab_mt 162 4 ls st w = ab_Run ab_mt 162 7 ls (.long (lN 60000) :: st) w := E_push (n := 3) rfl
theorem e_162_7 {ls : ab_L} {st : List Value} {w : ab_W} {v0 v1 v2 : Value} (h1 : ab_recv ab_mt 107 [v0, v1, v2] w.2 = true) (h8 : ab_w8 st = true) : ab_Run ab_mt 162 7 ls (v2 :: v1 :: v0 :: st) w = ab_aft 107 162 7 ls st (ab_Cl 107 [v0, v1, v2] w) := E_call3 rfl h1 h8
theorem e_162_10 {ls : ab_L} {st : List Value} {w : ab_W} {x : Int32} : ab_Run ab_mt 162 10 ls (.int x :: st) w = if x = 0 then ab_Run ab_mt 162 13 ls st w else ab_Run ab_mt 162 17 ls st w := E_if_ne rfl
theorem e_162_13 {ls : ab_L} {st : List Value} {w : ab_W} : ab_Run ab_mt 162 13 ls st w = ab_Run ab_mt 162 14 ls (.int (nI 1) :: st) w := E_push (n := 1) rfl
theorem e_162_14 {ls : ab_L} {st : List Value} {w : ab_W} : ab_Run ab_mt 162 14 ls st w = ab_Run ab_mt 162 29 ls st w := E_goto rfl
theorem e_162_17 {ls : ab_L} {st : List Value} {w : ab_W} (h : ab_isR (ls 0) = true) : ab_Run ab_mt 162 17 ls st w = ab_Run ab_mt 162 18 ls (ab_gv (ls 0) :: st) w := E_loadr (n := 1) rfl h
theorem e_162_18 {ls : ab_L} {st : List Value} {w : ab_W} {a : Nat} (h : ab_isF 7 9 (w.2 a) = true) : ab_Run ab_mt 162 18 ls (.ref a :: st) w = ab_Run ab_mt 162 21 ls (ab_fv 9 (w.2 a) :: st) w := E_get rfl h
theorem e_162_21 {ls : ab_L} {st : List Value} {w : ab_W} {x : Int32} : ab_Run ab_mt 162 21 ls (.int x :: st) w = if x = 0 then ab_Run ab_mt 162 28 ls st w else ab_Run ab_mt 162 24 ls st w := E_if_eq rfl
theorem e_162_24 {ls : ab_L} {st : List Value} {w : ab_W} : ab_Run ab_mt 162 24 ls st w = ab_Run ab_mt 162 25 ls (.int (nI 0) :: st) w := E_push (n := 1) rfl
theorem e_162_25 {ls : ab_L} {st : List Value} {w : ab_W} : ab_Run ab_mt 162 25 ls st w = ab_Run ab_mt 162 29 ls st w := E_goto rfl
theorem e_162_28 {ls : ab_L} {st : List Value} {w : ab_W} : ab_Run ab_mt 162 28 ls st w = ab_Run ab_mt 162 29 ls (.int (nI 2) :: st) w := E_push (n := 1) rfl
theorem e_162_29 {ls : ab_L} {st : List Value} {w : ab_W} {a : Nat} {x : Int32} (h : ab_isF 7 0 (w.2 a) = true) : ab_Run ab_mt 162 29 ls (.int x :: .ref a :: st) w = ab_Run ab_mt 162 32 ls st (w.1, ab_up w.2 a (ab_sf 0 (.int x) (w.2 a))) := E_put rfl h rfl
theorem e_162_32 {ls : ab_L} {st : List Value} {w : ab_W} (h : ab_isR (ls 0) = true) : ab_Run ab_mt 162 32 ls st w = ab_Run ab_mt 162 33 ls (ab_gv (ls 0) :: st) w := E_loadr (n := 1) rfl h
theorem e_162_33 {ls : ab_L} {st : List Value} {w : ab_W} {a : Nat} (h : ab_isF 7 0 (w.2 a) = true) : ab_Run ab_mt 162 33 ls (.ref a :: st) w = ab_Run ab_mt 162 36 ls (ab_fv 0 (w.2 a) :: st) w := E_get rfl h
theorem e_162_36 {ls : ab_L} {st : List Value} {w : ab_W} {x : Int32} : ab_Run ab_mt 162 36 ls (.int x :: st) w = if x ≤ 0 then ab_Run ab_mt 162 41 ls st w else ab_Run ab_mt 162 39 ls st w := E_if_le rfl
theorem e_162_39 {ls : ab_L} {st : List Value} {w : ab_W} : ab_Run ab_mt 162 39 ls st w = ab_Run ab_mt 162 40 ls (.int (nI 0) :: st) w := E_push (n := 1) rfl
theorem e_162_40 {ls : ab_L} {w : ab_W} {x : Int32} : ab_Run ab_mt 162 40 ls [.int x] w = some (.inl (some (.int x)), w) := E_reti rfl
theorem e_162_41 {ls : ab_L} {st : List Value} {w : ab_W} (h : ab_isR (ls 0) = true) : ab_Run ab_mt 162 41 ls st w = ab_Run ab_mt 162 42 ls (ab_gv (ls 0) :: st) w := E_loadr (n := 1) rfl h
theorem e_162_42 {ls : ab_L} {st : List Value} {w : ab_W} {v0 : Value} (h1 : ab_recv ab_mt 122 [v0] w.2 = true) (h8 : ab_w8 st = true) : ab_Run ab_mt 162 42 ls (v0 :: st) w = ab_aft 122 162 42 ls st (ab_Cl 122 [v0] w) := E_call1 rfl h1 h8
theorem e_162_45 {ls : ab_L} {st : List Value} {w : ab_W} (h : ab_isR (ls 0) = true) : ab_Run ab_mt 162 45 ls st w = ab_Run ab_mt 162 46 ls (ab_gv (ls 0) :: st) w := E_loadr (n := 1) rfl h
theorem e_162_46 {ls : ab_L} {st : List Value} {w : ab_W} (h : ab_isR (ls 0) = true) : ab_Run ab_mt 162 46 ls st w = ab_Run ab_mt 162 47 ls (ab_gv (ls 0) :: st) w := E_loadr (n := 1) rfl h
theorem e_162_47 {ls : ab_L} {st : List Value} {w : ab_W} {a : Nat} (h : ab_isF 7 13 (w.2 a) = true) : ab_Run ab_mt 162 47 ls (.ref a :: st) w = ab_Run ab_mt 162 50 ls (ab_fv 13 (w.2 a) :: st) w := E_get rfl h
theorem e_162_50 {ls : ab_L} {st : List Value} {w : ab_W} : ab_Run ab_mt 162 50 ls st w = ab_Run ab_mt 162 51 ls (.int (nI 0) :: st) w := E_push (n := 1) rfl
theorem e_162_51 {ls : ab_L} {st : List Value} {w : ab_W} {v0 v1 v2 : Value} (h1 : ab_recv ab_mt 160 [v0, v1, v2] w.2 = true) (h8 : ab_w8 st = true) : ab_Run ab_mt 162 51 ls (v2 :: v1 :: v0 :: st) w = ab_aft 160 162 51 ls st (ab_Cl 160 [v0, v1, v2] w) := E_call3 rfl h1 h8
theorem e_162_54 {ls : ab_L} {st : List Value} {w : ab_W} (h : ab_isR (ls 0) = true) : ab_Run ab_mt 162 54 ls st w = ab_Run ab_mt 162 55 ls (ab_gv (ls 0) :: st) w := E_loadr (n := 1) rfl h
theorem e_162_55 {ls : ab_L} {st : List Value} {w : ab_W} (h : ab_isR (ls 0) = true) : ab_Run ab_mt 162 55 ls st w = ab_Run ab_mt 162 56 ls (ab_gv (ls 0) :: st) w := E_loadr (n := 1) rfl h
theorem e_162_56 {ls : ab_L} {st : List Value} {w : ab_W} {a : Nat} (h : ab_isF 7 13 (w.2 a) = true) : ab_Run ab_mt 162 56 ls (.ref a :: st) w = ab_Run ab_mt 162 59 ls (ab_fv 13 (w.2 a) :: st) w := E_get rfl h
theorem e_162_59 {ls : ab_L} {st : List Value} {w : ab_W} {v0 v1 : Value} (h1 : ab_recv ab_mt 161 [v0, v1] w.2 = true) (h8 : ab_w8 st = true) : ab_Run ab_mt 162 59 ls (v1 :: v0 :: st) w = ab_aft 161 162 59 ls st (ab_Cl 161 [v0, v1] w) := E_call2 rfl h1 h8
theorem e_162_62 {ls : ab_L} {st : List Value} {w : ab_W} {x y : Int32} : ab_Run ab_mt 162 62 ls (.int y :: .int x :: st) w = ab_Run ab_mt 162 63 ls (.int (x + y) :: st) w := E_ib (f := fun x y => x + y) rfl
theorem e_162_63 {ls : ab_L} {st : List Value} {w : ab_W} {x : Int32} : ab_Run ab_mt 162 63 ls (.int x :: st) w = ab_Run ab_mt 162 64 (ab_l1 ls 2 (.int x)) st w := E_stori (n := 1) rfl
theorem e_162_64 {ls : ab_L} {st : List Value} {w : ab_W} (h : ab_isR (ls 0) = true) : ab_Run ab_mt 162 64 ls st w = ab_Run ab_mt 162 65 ls (ab_gv (ls 0) :: st) w := E_loadr (n := 1) rfl h
theorem e_162_65 {ls : ab_L} {st : List Value} {w : ab_W} {x : Nat} : ab_Run ab_mt 162 65 ls (.ref x :: st) w = ab_Run ab_mt 162 66 ls (.ref x :: .ref x :: st) w := E_dup_r rfl
theorem e_162_66 {ls : ab_L} {st : List Value} {w : ab_W} {a : Nat} (h : ab_isF 7 13 (w.2 a) = true) : ab_Run ab_mt 162 66 ls (.ref a :: st) w = ab_Run ab_mt 162 69 ls (ab_fv 13 (w.2 a) :: st) w := E_get rfl h
theorem e_162_69 {ls : ab_L} {st : List Value} {w : ab_W} : ab_Run ab_mt 162 69 ls st w = ab_Run ab_mt 162 72 ls (.long (lN 1000) :: st) w := E_push (n := 3) rfl
theorem e_162_72 {ls : ab_L} {st : List Value} {w : ab_W} (h : ab_isI (ls 1) = true) : ab_Run ab_mt 162 72 ls st w = ab_Run ab_mt 162 73 ls (ab_gv (ls 1) :: st) w := E_loadi (n := 1) rfl h
theorem e_162_73 {ls : ab_L} {st : List Value} {w : ab_W} {x : Int32} : ab_Run ab_mt 162 73 ls (.int x :: st) w = ab_Run ab_mt 162 74 ls (.long x.toInt64 :: st) w := E_i2l rfl
theorem e_162_74 {ls : ab_L} {st : List Value} {w : ab_W} {x y : Int64} : ab_Run ab_mt 162 74 ls (.long y :: .long x :: st) w = ab_Run ab_mt 162 75 ls (.long (x * y) :: st) w := E_lb (f := fun x y => x * y) rfl
theorem e_162_75 {ls : ab_L} {st : List Value} {w : ab_W} {x y : Int64} : ab_Run ab_mt 162 75 ls (.long y :: .long x :: st) w = ab_Run ab_mt 162 76 ls (.long (x + y) :: st) w := E_lb (f := fun x y => x + y) rfl
theorem e_162_76 {ls : ab_L} {st : List Value} {w : ab_W} {a : Nat} {x : Int64} (h : ab_isF 7 13 (w.2 a) = true) : ab_Run ab_mt 162 76 ls (.long x :: .ref a :: st) w = ab_Run ab_mt 162 79 ls st (w.1, ab_up w.2 a (ab_sf 13 (.long x) (w.2 a))) := E_put rfl h rfl
theorem e_162_79 {ls : ab_L} {st : List Value} {w : ab_W} (h : ab_isR (ls 0) = true) : ab_Run ab_mt 162 79 ls st w = ab_Run ab_mt 162 80 ls (ab_gv (ls 0) :: st) w := E_loadr (n := 1) rfl h
theorem e_162_80 {ls : ab_L} {st : List Value} {w : ab_W} (h : ab_isR (ls 0) = true) : ab_Run ab_mt 162 80 ls st w = ab_Run ab_mt 162 81 ls (ab_gv (ls 0) :: st) w := E_loadr (n := 1) rfl h
theorem e_162_81 {ls : ab_L} {st : List Value} {w : ab_W} {a : Nat} (h : ab_isF 7 13 (w.2 a) = true) : ab_Run ab_mt 162 81 ls (.ref a :: st) w = ab_Run ab_mt 162 84 ls (ab_fv 13 (w.2 a) :: st) w := E_get rfl h
theorem e_162_84 {ls : ab_L} {st : List Value} {w : ab_W} : ab_Run ab_mt 162 84 ls st w = ab_Run ab_mt 162 85 ls (.int (nI 0) :: st) w := E_push (n := 1) rfl
theorem e_162_85 {ls : ab_L} {st : List Value} {w : ab_W} {v0 v1 v2 : Value} (h1 : ab_recv ab_mt 160 [v0, v1, v2] w.2 = true) (h8 : ab_w8 st = true) : ab_Run ab_mt 162 85 ls (v2 :: v1 :: v0 :: st) w = ab_aft 160 162 85 ls st (ab_Cl 160 [v0, v1, v2] w) := E_call3 rfl h1 h8
theorem e_162_88 {ls : ab_L} {st : List Value} {w : ab_W} (h : ab_isR (ls 0) = true) : ab_Run ab_mt 162 88 ls st w = ab_Run ab_mt 162 89 ls (ab_gv (ls 0) :: st) w := E_loadr (n := 1) rfl h
theorem e_162_89 {ls : ab_L} {st : List Value} {w : ab_W} (h : ab_isR (ls 0) = true) : ab_Run ab_mt 162 89 ls st w = ab_Run ab_mt 162 90 ls (ab_gv (ls 0) :: st) w := E_loadr (n := 1) rfl h
theorem e_162_90 {ls : ab_L} {st : List Value} {w : ab_W} {a : Nat} (h : ab_isF 7 13 (w.2 a) = true) : ab_Run ab_mt 162 90 ls (.ref a :: st) w = ab_Run ab_mt 162 93 ls (ab_fv 13 (w.2 a) :: st) w := E_get rfl h
theorem e_162_93 {ls : ab_L} {st : List Value} {w : ab_W} {v0 v1 : Value} (h1 : ab_recv ab_mt 161 [v0, v1] w.2 = true) (h8 : ab_w8 st = true) : ab_Run ab_mt 162 93 ls (v1 :: v0 :: st) w = ab_aft 161 162 93 ls st (ab_Cl 161 [v0, v1] w) := E_call2 rfl h1 h8
theorem e_162_96 {ls : ab_L} {st : List Value} {w : ab_W} {x y : Int32} : ab_Run ab_mt 162 96 ls (.int y :: .int x :: st) w = ab_Run ab_mt 162 97 ls (.int (x + y) :: st) w := E_ib (f := fun x y => x + y) rfl
theorem e_162_97 {ls : ab_L} {st : List Value} {w : ab_W} {x : Int32} : ab_Run ab_mt 162 97 ls (.int x :: st) w = ab_Run ab_mt 162 98 (ab_l1 ls 3 (.int x)) st w := E_stori (n := 1) rfl
theorem e_162_98 {ls : ab_L} {st : List Value} {w : ab_W} (h : ab_isR (ls 0) = true) : ab_Run ab_mt 162 98 ls st w = ab_Run ab_mt 162 99 ls (ab_gv (ls 0) :: st) w := E_loadr (n := 1) rfl h
theorem e_162_99 {ls : ab_L} {st : List Value} {w : ab_W} (h : ab_isR (ls 0) = true) : ab_Run ab_mt 162 99 ls st w = ab_Run ab_mt 162 100 ls (ab_gv (ls 0) :: st) w := E_loadr (n := 1) rfl h
theorem e_162_100 {ls : ab_L} {st : List Value} {w : ab_W} {a : Nat} (h : ab_isF 7 13 (w.2 a) = true) : ab_Run ab_mt 162 100 ls (.ref a :: st) w = ab_Run ab_mt 162 103 ls (ab_fv 13 (w.2 a) :: st) w := E_get rfl h
theorem e_162_103 {ls : ab_L} {st : List Value} {w : ab_W} (h : ab_isR (ls 0) = true) : ab_Run ab_mt 162 103 ls st w = ab_Run ab_mt 162 104 ls (ab_gv (ls 0) :: st) w := E_loadr (n := 1) rfl h
theorem e_162_104 {ls : ab_L} {st : List Value} {w : ab_W} (h : ab_isR (ls 0) = true) : ab_Run ab_mt 162 104 ls st w = ab_Run ab_mt 162 105 ls (ab_gv (ls 0) :: st) w := E_loadr (n := 1) rfl h
theorem e_162_105 {ls : ab_L} {st : List Value} {w : ab_W} {a : Nat} (h : ab_isF 7 17 (w.2 a) = true) : ab_Run ab_mt 162 105 ls (.ref a :: st) w = ab_Run ab_mt 162 108 ls (ab_fv 17 (w.2 a) :: st) w := E_get rfl h
theorem e_162_108 {ls : ab_L} {st : List Value} {w : ab_W} {v0 v1 : Value} (h1 : ab_recv ab_mt 155 [v0, v1] w.2 = true) (h8 : ab_w8 st = true) : ab_Run ab_mt 162 108 ls (v1 :: v0 :: st) w = ab_aft 155 162 108 ls st (ab_Cl 155 [v0, v1] w) := E_call2 rfl h1 h8
theorem e_162_111 {ls : ab_L} {st : List Value} {w : ab_W} {x y : Int64} : ab_Run ab_mt 162 111 ls (.long y :: .long x :: st) w = ab_Run ab_mt 162 112 ls (.int (lg_cmp x y) :: st) w := E_lcmp rfl
theorem e_162_112 {ls : ab_L} {st : List Value} {w : ab_W} {x : Int32} : ab_Run ab_mt 162 112 ls (.int x :: st) w = if 0 ≤ x then ab_Run ab_mt 162 119 ls st w else ab_Run ab_mt 162 115 ls st w := E_if_ge rfl
theorem e_162_115 {ls : ab_L} {st : List Value} {w : ab_W} : ab_Run ab_mt 162 115 ls st w = ab_Run ab_mt 162 116 ls (.int (nI 1) :: st) w := E_push (n := 1) rfl
theorem e_162_116 {ls : ab_L} {st : List Value} {w : ab_W} : ab_Run ab_mt 162 116 ls st w = ab_Run ab_mt 162 120 ls st w := E_goto rfl
theorem e_162_119 {ls : ab_L} {st : List Value} {w : ab_W} : ab_Run ab_mt 162 119 ls st w = ab_Run ab_mt 162 120 ls (.int (nI 0) :: st) w := E_push (n := 1) rfl
theorem e_162_120 {ls : ab_L} {st : List Value} {w : ab_W} {a : Nat} {x : Int32} (h : ab_isF 7 9 (w.2 a) = true) (h2 : ab_fit 2 (.int x) = true) : ab_Run ab_mt 162 120 ls (.int x :: .ref a :: st) w = ab_Run ab_mt 162 123 ls st (w.1, ab_up w.2 a (ab_sf 9 (.int x) (w.2 a))) := E_put rfl h h2
theorem e_162_123 {ls : ab_L} {st : List Value} {w : ab_W} (h : ab_isI (ls 3) = true) : ab_Run ab_mt 162 123 ls st w = ab_Run ab_mt 162 124 ls (ab_gv (ls 3) :: st) w := E_loadi (n := 1) rfl h
theorem e_162_124 {ls : ab_L} {st : List Value} {w : ab_W} (h : ab_isI (ls 2) = true) : ab_Run ab_mt 162 124 ls st w = ab_Run ab_mt 162 125 ls (ab_gv (ls 2) :: st) w := E_loadi (n := 1) rfl h
theorem e_162_125 {ls : ab_L} {st : List Value} {w : ab_W} {x y : Int32} : ab_Run ab_mt 162 125 ls (.int y :: .int x :: st) w = ab_Run ab_mt 162 126 ls (.int (x - y) :: st) w := E_ib (f := fun x y => x - y) rfl
theorem e_162_126 {ls : ab_L} {w : ab_W} {x : Int32} : ab_Run ab_mt 162 126 ls [.int x] w = some (.inl (some (.int x)), w) := E_reti rfl
theorem rv_162 {σ : ab_S} {t : Nat} {x0 : Int32} : ab_recv ab_mt 162 [.ref t, .int x0] σ = ab_isO 7 (σ t) := rfl
theorem x_162_42 {ls : ab_L} {rest : List Value} {E : Nat} {w : ab_W} : ab_aft 122 162 42 ls rest (some (.inr E, w)) = some (.inr E, w) := ab_aft_x rfl rfl (by unfold ab_hand; rfl)
theorem x_162_59 {ls : ab_L} {rest : List Value} {E : Nat} {w : ab_W} : ab_aft 161 162 59 ls rest (some (.inr E, w)) = some (.inr E, w) := ab_aft_x rfl rfl (by unfold ab_hand; rfl)
theorem x_162_93 {ls : ab_L} {rest : List Value} {E : Nat} {w : ab_W} : ab_aft 161 162 93 ls rest (some (.inr E, w)) = some (.inr E, w) := ab_aft_x rfl rfl (by unfold ab_hand; rfl)
theorem e_163_0 {ls : ab_L} {st : List Value} {w : ab_W} (h : ab_isR (ls 0) = true) : ab_Run ab_mt 163 0 ls st w = ab_Run ab_mt 163 1 ls (ab_gv (ls 0) :: st) w := E_loadr (n := 1) rfl h
theorem e_163_1 {ls : ab_L} {st : List Value} {w : ab_W} (h : ab_isR (ls 0) = true) : ab_Run ab_mt 163 1 ls st w = ab_Run ab_mt 163 2 ls (ab_gv (ls 0) :: st) w := E_loadr (n := 1) rfl h
theorem e_163_2 {ls : ab_L} {st : List Value} {w : ab_W} {a : Nat} (h : ab_isF 7 9 (w.2 a) = true) : ab_Run ab_mt 163 2 ls (.ref a :: st) w = ab_Run ab_mt 163 5 ls (ab_fv 9 (w.2 a) :: st) w := E_get rfl h
theorem e_163_5 {ls : ab_L} {st : List Value} {w : ab_W} {x : Int32} : ab_Run ab_mt 163 5 ls (.int x :: st) w = if x = 0 then ab_Run ab_mt 163 12 ls st w else ab_Run ab_mt 163 8 ls st w := E_if_eq rfl
theorem e_163_8 {ls : ab_L} {st : List Value} {w : ab_W} : ab_Run ab_mt 163 8 ls st w = ab_Run ab_mt 163 9 ls (.int (nI 0) :: st) w := E_push (n := 1) rfl
theorem e_163_9 {ls : ab_L} {st : List Value} {w : ab_W} : ab_Run ab_mt 163 9 ls st w = ab_Run ab_mt 163 13 ls st w := E_goto rfl
theorem e_163_12 {ls : ab_L} {st : List Value} {w : ab_W} : ab_Run ab_mt 163 12 ls st w = ab_Run ab_mt 163 13 ls (.int (nI 1) :: st) w := E_push (n := 1) rfl
theorem e_163_13 {ls : ab_L} {st : List Value} {w : ab_W} {a : Nat} {x : Int32} (h : ab_isF 7 0 (w.2 a) = true) : ab_Run ab_mt 163 13 ls (.int x :: .ref a :: st) w = ab_Run ab_mt 163 16 ls st (w.1, ab_up w.2 a (ab_sf 0 (.int x) (w.2 a))) := E_put rfl h rfl
theorem e_163_16 {ls : ab_L} {st : List Value} {w : ab_W} (h : ab_isR (ls 0) = true) : ab_Run ab_mt 163 16 ls st w = ab_Run ab_mt 163 17 ls (ab_gv (ls 0) :: st) w := E_loadr (n := 1) rfl h
theorem e_163_17 {ls : ab_L} {st : List Value} {w : ab_W} {a : Nat} (h : ab_isF 7 0 (w.2 a) = true) : ab_Run ab_mt 163 17 ls (.ref a :: st) w = ab_Run ab_mt 163 20 ls (ab_fv 0 (w.2 a) :: st) w := E_get rfl h
theorem e_163_20 {ls : ab_L} {st : List Value} {w : ab_W} {x : Int32} : ab_Run ab_mt 163 20 ls (.int x :: st) w = if x ≤ 0 then ab_Run ab_mt 163 25 ls st w else ab_Run ab_mt 163 23 ls st w := E_if_le rfl
theorem e_163_23 {ls : ab_L} {st : List Value} {w : ab_W} : ab_Run ab_mt 163 23 ls st w = ab_Run ab_mt 163 24 ls (.long (lN 0) :: st) w := E_push (n := 1) rfl
theorem e_163_24 {ls : ab_L} {w : ab_W} {x : Int64} : ab_Run ab_mt 163 24 ls [.long x] w = some (.inl (some (.long x)), w) := E_retl rfl
theorem e_163_25 {ls : ab_L} {st : List Value} {w : ab_W} (h : ab_isR (ls 0) = true) : ab_Run ab_mt 163 25 ls st w = ab_Run ab_mt 163 26 ls (ab_gv (ls 0) :: st) w := E_loadr (n := 1) rfl h
theorem e_163_26 {ls : ab_L} {st : List Value} {w : ab_W} : ab_Run ab_mt 163 26 ls st w = ab_Run ab_mt 163 27 ls (.int (nI 0) :: st) w := E_push (n := 1) rfl
theorem e_163_27 {ls : ab_L} {st : List Value} {w : ab_W} {a : Nat} {x : Int32} (h : ab_isF 7 9 (w.2 a) = true) (h2 : ab_fit 2 (.int x) = true) : ab_Run ab_mt 163 27 ls (.int x :: .ref a :: st) w = ab_Run ab_mt 163 30 ls st (w.1, ab_up w.2 a (ab_sf 9 (.int x) (w.2 a))) := E_put rfl h h2
theorem e_163_30 {ls : ab_L} {st : List Value} {w : ab_W} (h : ab_isR (ls 0) = true) : ab_Run ab_mt 163 30 ls st w = ab_Run ab_mt 163 31 ls (ab_gv (ls 0) :: st) w := E_loadr (n := 1) rfl h
theorem e_163_31 {ls : ab_L} {st : List Value} {w : ab_W} {a : Nat} (h : ab_isF 7 13 (w.2 a) = true) : ab_Run ab_mt 163 31 ls (.ref a :: st) w = ab_Run ab_mt 163 34 ls (ab_fv 13 (w.2 a) :: st) w := E_get rfl h
theorem e_163_34 {ls : ab_L} {w : ab_W} {x : Int64} : ab_Run ab_mt 163 34 ls [.long x] w = some (.inl (some (.long x)), w) := E_retl rfl
theorem rv_163 {σ : ab_S} {t : Nat} : ab_recv ab_mt 163 [.ref t] σ = ab_isO 7 (σ t) := rfl
theorem e_164_0 {ls : ab_L} {st : List Value} {w : ab_W} (h : ab_isL (ls 3) = true) (h2 : (ls 4).isNone = true) : ab_Run ab_mt 164 0 ls st w = ab_Run ab_mt 164 1 ls (ab_gv (ls 3) :: st) w := E_loadl (n := 1) rfl h h2
theorem e_164_1 {ls : ab_L} {st : List Value} {w : ab_W} (h : ab_isR (ls 0) = true) : ab_Run ab_mt 164 1 ls st w = ab_Run ab_mt 164 2 ls (ab_gv (ls 0) :: st) w := E_loadr (n := 1) rfl h
theorem e_164_2 {ls : ab_L} {st : List Value} {w : ab_W} {a : Nat} (h : ab_isF 7 13 (w.2 a) = true) : ab_Run ab_mt 164 2 ls (.ref a :: st) w = ab_Run ab_mt 164 5 ls (ab_fv 13 (w.2 a) :: st) w := E_get rfl h
theorem e_164_5 {ls : ab_L} {st : List Value} {w : ab_W} {x y : Int64} : ab_Run ab_mt 164 5 ls (.long y :: .long x :: st) w = ab_Run ab_mt 164 6 ls (.int (lg_cmp x y) :: st) w := E_lcmp rfl
theorem e_164_6 {ls : ab_L} {st : List Value} {w : ab_W} {x : Int32} : ab_Run ab_mt 164 6 ls (.int x :: st) w = if x < 0 then ab_Run ab_mt 164 27 ls st w else ab_Run ab_mt 164 9 ls st w := E_if_lt rfl
theorem e_164_9 {ls : ab_L} {st : List Value} {w : ab_W} (h : ab_isL (ls 1) = true) (h2 : (ls 2).isNone = true) : ab_Run ab_mt 164 9 ls st w = ab_Run ab_mt 164 10 ls (ab_gv (ls 1) :: st) w := E_loadl (n := 1) rfl h h2
theorem e_164_10 {ls : ab_L} {st : List Value} {w : ab_W} : ab_Run ab_mt 164 10 ls st w = ab_Run ab_mt 164 13 ls (.long (-1) :: st) w := E_push (n := 3) rfl
theorem e_164_13 {ls : ab_L} {st : List Value} {w : ab_W} {x y : Int64} : ab_Run ab_mt 164 13 ls (.long y :: .long x :: st) w = ab_Run ab_mt 164 14 ls (.int (lg_cmp x y) :: st) w := E_lcmp rfl
theorem e_164_14 {ls : ab_L} {st : List Value} {w : ab_W} {x : Int32} : ab_Run ab_mt 164 14 ls (.int x :: st) w = if x = 0 then ab_Run ab_mt 164 23 ls st w else ab_Run ab_mt 164 17 ls st w := E_if_eq rfl
theorem e_164_17 {ls : ab_L} {st : List Value} {w : ab_W} (h : ab_isL (ls 3) = true) (h2 : (ls 4).isNone = true) : ab_Run ab_mt 164 17 ls st w = ab_Run ab_mt 164 18 ls (ab_gv (ls 3) :: st) w := E_loadl (n := 1) rfl h h2
theorem e_164_18 {ls : ab_L} {st : List Value} {w : ab_W} (h : ab_isL (ls 1) = true) (h2 : (ls 2).isNone = true) : ab_Run ab_mt 164 18 ls st w = ab_Run ab_mt 164 19 ls (ab_gv (ls 1) :: st) w := E_loadl (n := 1) rfl h h2
theorem e_164_19 {ls : ab_L} {st : List Value} {w : ab_W} {x y : Int64} : ab_Run ab_mt 164 19 ls (.long y :: .long x :: st) w = ab_Run ab_mt 164 20 ls (.int (lg_cmp x y) :: st) w := E_lcmp rfl
theorem e_164_20 {ls : ab_L} {st : List Value} {w : ab_W} {x : Int32} : ab_Run ab_mt 164 20 ls (.int x :: st) w = if 0 ≤ x then ab_Run ab_mt 164 27 ls st w else ab_Run ab_mt 164 23 ls st w := E_if_ge rfl
theorem e_164_23 {ls : ab_L} {st : List Value} {w : ab_W} (h : ab_isL (ls 3) = true) (h2 : (ls 4).isNone = true) : ab_Run ab_mt 164 23 ls st w = ab_Run ab_mt 164 24 ls (ab_gv (ls 3) :: st) w := E_loadl (n := 1) rfl h h2
theorem e_164_24 {ls : ab_L} {st : List Value} {w : ab_W} : ab_Run ab_mt 164 24 ls st w = ab_Run ab_mt 164 28 ls st w := E_goto rfl
theorem e_164_27 {ls : ab_L} {st : List Value} {w : ab_W} (h : ab_isL (ls 1) = true) (h2 : (ls 2).isNone = true) : ab_Run ab_mt 164 27 ls st w = ab_Run ab_mt 164 28 ls (ab_gv (ls 1) :: st) w := E_loadl (n := 1) rfl h h2
theorem e_164_28 {ls : ab_L} {w : ab_W} {x : Int64} : ab_Run ab_mt 164 28 ls [.long x] w = some (.inl (some (.long x)), w) := E_retl rfl
theorem rv_164 {σ : ab_S} {t : Nat} {x0 : Int64} {x1 : Int64} : ab_recv ab_mt 164 [.ref t, .long x0, .long x1] σ = ab_isO 7 (σ t) := rfl
theorem e_165_0 {ls : ab_L} {st : List Value} {w : ab_W} : ab_Run ab_mt 165 0 ls st w = ab_Run ab_mt 165 3 ls (.long (-1) :: st) w := E_push (n := 3) rfl
theorem e_165_3 {ls : ab_L} {st : List Value} {w : ab_W} {x : Int64} : ab_Run ab_mt 165 3 ls (.long x :: st) w = ab_Run ab_mt 165 4 (ab_l2 ls 1 (.long x)) st w := E_storl (n := 1) rfl
theorem e_165_4 {ls : ab_L} {st : List Value} {w : ab_W} : ab_Run ab_mt 165 4 ls st w = ab_Run ab_mt 165 5 ls (.int (nI 0) :: st) w := E_push (n := 1) rfl
theorem e_165_5 {ls : ab_L} {st : List Value} {w : ab_W} {x : Int32} : ab_Run ab_mt 165 5 ls (.int x :: st) w = ab_Run ab_mt 165 6 (ab_l1 ls 3 (.int x)) st w := E_stori (n := 1) rfl
theorem e_165_6 {ls : ab_L} {st : List Value} {w : ab_W} (h : ab_isI (ls 3) = true) : ab_Run ab_mt 165 6 ls st w = ab_Run ab_mt 165 7 ls (ab_gv (ls 3) :: st) w := E_loadi (n := 1) rfl h
theorem e_165_7 {ls : ab_L} {st : List Value} {w : ab_W} (h : ab_isR (ls 0) = true) : ab_Run ab_mt 165 7 ls st w = ab_Run ab_mt 165 8 ls (ab_gv (ls 0) :: st) w := E_loadr (n := 1) rfl h
theorem e_165_8 {ls : ab_L} {st : List Value} {w : ab_W} {a : Nat} (h : ab_isF 7 11 (w.2 a) = true) : ab_Run ab_mt 165 8 ls (.ref a :: st) w = ab_Run ab_mt 165 11 ls (ab_fv 11 (w.2 a) :: st) w := E_get rfl h
theorem e_165_11 {ls : ab_L} {st : List Value} {w : ab_W} {x y : Int32} : ab_Run ab_mt 165 11 ls (.int y :: .int x :: st) w = if y ≤ x then ab_Run ab_mt 165 31 ls st w else ab_Run ab_mt 165 14 ls st w := E_ic_ge rfl
theorem e_165_14 {ls : ab_L} {st : List Value} {w : ab_W} (h : ab_isR (ls 0) = true) : ab_Run ab_mt 165 14 ls st w = ab_Run ab_mt 165 15 ls (ab_gv (ls 0) :: st) w := E_loadr (n := 1) rfl h
theorem e_165_15 {ls : ab_L} {st : List Value} {w : ab_W} (h : ab_isL (ls 1) = true) (h2 : (ls 2).isNone = true) : ab_Run ab_mt 165 15 ls st w = ab_Run ab_mt 165 16 ls (ab_gv (ls 1) :: st) w := E_loadl (n := 1) rfl h h2
theorem e_165_16 {ls : ab_L} {st : List Value} {w : ab_W} (h : ab_isR (ls 0) = true) : ab_Run ab_mt 165 16 ls st w = ab_Run ab_mt 165 17 ls (ab_gv (ls 0) :: st) w := E_loadr (n := 1) rfl h
theorem e_165_17 {ls : ab_L} {st : List Value} {w : ab_W} (h : ab_isI (ls 3) = true) : ab_Run ab_mt 165 17 ls st w = ab_Run ab_mt 165 18 ls (ab_gv (ls 3) :: st) w := E_loadi (n := 1) rfl h
theorem e_165_18 {ls : ab_L} {st : List Value} {w : ab_W} {v0 v1 : Value} (h1 : ab_recv ab_mt 156 [v0, v1] w.2 = true) (h8 : ab_w8 st = true) : ab_Run ab_mt 165 18 ls (v1 :: v0 :: st) w = ab_aft 156 165 18 ls st (ab_Cl 156 [v0, v1] w) := E_call2 rfl h1 h8
theorem e_165_21 {ls : ab_L} {st : List Value} {w : ab_W} {v0 v1 v2 : Value} (h1 : ab_recv ab_mt 164 [v0, v1, v2] w.2 = true) (h8 : ab_w8 st = true) : ab_Run ab_mt 165 21 ls (v2 :: v1 :: v0 :: st) w = ab_aft 164 165 21 ls st (ab_Cl 164 [v0, v1, v2] w) := E_call3 rfl h1 h8
theorem e_165_24 {ls : ab_L} {st : List Value} {w : ab_W} {x : Int64} : ab_Run ab_mt 165 24 ls (.long x :: st) w = ab_Run ab_mt 165 25 (ab_l2 ls 1 (.long x)) st w := E_storl (n := 1) rfl
theorem e_165_25 {ls : ab_L} {st : List Value} {w : ab_W} (h : ab_isI (ls 3) = true) : ab_Run ab_mt 165 25 ls st w = ab_Run ab_mt 165 28 (ab_l1 ls 3 (.int (ab_gi (ls 3) + (nI 1)))) st w := E_iinc rfl h
theorem e_165_28 {ls : ab_L} {st : List Value} {w : ab_W} : ab_Run ab_mt 165 28 ls st w = ab_Run ab_mt 165 6 ls st w := E_goto rfl
theorem e_165_31 {ls : ab_L} {st : List Value} {w : ab_W} (h : ab_isR (ls 0) = true) : ab_Run ab_mt 165 31 ls st w = ab_Run ab_mt 165 32 ls (ab_gv (ls 0) :: st) w := E_loadr (n := 1) rfl h
theorem e_165_32 {ls : ab_L} {st : List Value} {w : ab_W} {v0 : Value} (h1 : ab_recv ab_mt 114 [v0] w.2 = true) (h8 : ab_w8 st = true) : ab_Run ab_mt 165 32 ls (v0 :: st) w = ab_aft 114 165 32 ls st (ab_Cl 114 [v0] w) := E_call1 rfl h1 h8
theorem e_165_35 {ls : ab_L} {st : List Value} {w : ab_W} {x : Int32} : ab_Run ab_mt 165 35 ls (.int x :: st) w = ab_Run ab_mt 165 36 (ab_l1 ls 3 (.int x)) st w := E_stori (n := 1) rfl
theorem e_165_36 {ls : ab_L} {st : List Value} {w : ab_W} (h : ab_isR (ls 0) = true) : ab_Run ab_mt 165 36 ls st w = ab_Run ab_mt 165 37 ls (ab_gv (ls 0) :: st) w := E_loadr (n := 1) rfl h
theorem e_165_37 {ls : ab_L} {st : List Value} {w : ab_W} (h : ab_isR (ls 0) = true) : ab_Run ab_mt 165 37 ls st w = ab_Run ab_mt 165 38 ls (ab_gv (ls 0) :: st) w := E_loadr (n := 1) rfl h
theorem e_165_38 {ls : ab_L} {st : List Value} {w : ab_W} {a : Nat} (h : ab_isF 7 10 (w.2 a) = true) : ab_Run ab_mt 165 38 ls (.ref a :: st) w = ab_Run ab_mt 165 41 ls (ab_fv 10 (w.2 a) :: st) w := E_get rfl h
theorem e_165_41 {ls : ab_L} {st : List Value} {w : ab_W} {v0 v1 : Value} (h1 : ab_recv ab_mt 113 [v0, v1] w.2 = true) (h8 : ab_w8 st = true) : ab_Run ab_mt 165 41 ls (v1 :: v0 :: st) w = ab_aft 113 165 41 ls st (ab_Cl 113 [v0, v1] w) := E_call2 rfl h1 h8
theorem e_165_44 {ls : ab_L} {st : List Value} {w : ab_W} {x : Int32} : ab_Run ab_mt 165 44 ls (.int x :: st) w = ab_Run ab_mt 165 46 (ab_l1 ls 4 (.int x)) st w := E_stori (n := 2) rfl
theorem e_165_46 {ls : ab_L} {st : List Value} {w : ab_W} (h : ab_isI (ls 4) = true) : ab_Run ab_mt 165 46 ls st w = ab_Run ab_mt 165 48 ls (ab_gv (ls 4) :: st) w := E_loadi (n := 2) rfl h
theorem e_165_48 {ls : ab_L} {st : List Value} {w : ab_W} (h : ab_isI (ls 3) = true) : ab_Run ab_mt 165 48 ls st w = ab_Run ab_mt 165 49 ls (ab_gv (ls 3) :: st) w := E_loadi (n := 1) rfl h
theorem e_165_49 {ls : ab_L} {st : List Value} {w : ab_W} {x y : Int32} : ab_Run ab_mt 165 49 ls (.int y :: .int x :: st) w = if y ≤ x then ab_Run ab_mt 165 102 ls st w else ab_Run ab_mt 165 52 ls st w := E_ic_ge rfl
theorem e_165_52 {ls : ab_L} {st : List Value} {w : ab_W} : ab_Run ab_mt 165 52 ls st w = ab_Run ab_mt 165 53 ls (.int (nI 0) :: st) w := E_push (n := 1) rfl
theorem e_165_53 {ls : ab_L} {st : List Value} {w : ab_W} {x : Int32} : ab_Run ab_mt 165 53 ls (.int x :: st) w = ab_Run ab_mt 165 55 (ab_l1 ls 5 (.int x)) st w := E_stori (n := 2) rfl
theorem e_165_55 {ls : ab_L} {st : List Value} {w : ab_W} (h : ab_isI (ls 5) = true) : ab_Run ab_mt 165 55 ls st w = ab_Run ab_mt 165 57 ls (ab_gv (ls 5) :: st) w := E_loadi (n := 2) rfl h
theorem e_165_57 {ls : ab_L} {st : List Value} {w : ab_W} (h : ab_isR (ls 0) = true) : ab_Run ab_mt 165 57 ls st w = ab_Run ab_mt 165 58 ls (ab_gv (ls 0) :: st) w := E_loadr (n := 1) rfl h
theorem e_165_58 {ls : ab_L} {st : List Value} {w : ab_W} (h : ab_isR (ls 0) = true) : ab_Run ab_mt 165 58 ls st w = ab_Run ab_mt 165 59 ls (ab_gv (ls 0) :: st) w := E_loadr (n := 1) rfl h
theorem e_165_59 {ls : ab_L} {st : List Value} {w : ab_W} {a : Nat} (h : ab_isF 7 14 (w.2 a) = true) : ab_Run ab_mt 165 59 ls (.ref a :: st) w = ab_Run ab_mt 165 62 ls (ab_fv 14 (w.2 a) :: st) w := E_get rfl h
theorem e_165_62 {ls : ab_L} {st : List Value} {w : ab_W} (h : ab_isI (ls 4) = true) : ab_Run ab_mt 165 62 ls st w = ab_Run ab_mt 165 64 ls (ab_gv (ls 4) :: st) w := E_loadi (n := 2) rfl h
theorem e_165_64 {ls : ab_L} {st : List Value} {w : ab_W} {a : Nat} {i : Int32} (h : ab_inI i (w.2 a) = true) : ab_Run ab_mt 165 64 ls (.int i :: .ref a :: st) w = ab_Run ab_mt 165 65 ls (.int (ab_aI i.toNatClampNeg (w.2 a)) :: st) w := E_iald rfl h
theorem e_165_65 {ls : ab_L} {st : List Value} {w : ab_W} : ab_Run ab_mt 165 65 ls st w = ab_Run ab_mt 165 66 ls (.int (nI 1) :: st) w := E_push (n := 1) rfl
theorem e_165_66 {ls : ab_L} {st : List Value} {w : ab_W} {v0 v1 v2 : Value} (h1 : ab_recv ab_mt 109 [v0, v1, v2] w.2 = true) (h8 : ab_w8 st = true) : ab_Run ab_mt 165 66 ls (v2 :: v1 :: v0 :: st) w = ab_aft 109 165 66 ls st (ab_Cl 109 [v0, v1, v2] w) := E_call3 rfl h1 h8
theorem e_165_69 {ls : ab_L} {st : List Value} {w : ab_W} {x y : Int32} : ab_Run ab_mt 165 69 ls (.int y :: .int x :: st) w = if y ≤ x then ab_Run ab_mt 165 96 ls st w else ab_Run ab_mt 165 72 ls st w := E_ic_ge rfl
theorem e_165_72 {ls : ab_L} {st : List Value} {w : ab_W} (h : ab_isR (ls 0) = true) : ab_Run ab_mt 165 72 ls st w = ab_Run ab_mt 165 73 ls (ab_gv (ls 0) :: st) w := E_loadr (n := 1) rfl h
theorem e_165_73 {ls : ab_L} {st : List Value} {w : ab_W} (h : ab_isL (ls 1) = true) (h2 : (ls 2).isNone = true) : ab_Run ab_mt 165 73 ls st w = ab_Run ab_mt 165 74 ls (ab_gv (ls 1) :: st) w := E_loadl (n := 1) rfl h h2
theorem e_165_74 {ls : ab_L} {st : List Value} {w : ab_W} (h : ab_isR (ls 0) = true) : ab_Run ab_mt 165 74 ls st w = ab_Run ab_mt 165 75 ls (ab_gv (ls 0) :: st) w := E_loadr (n := 1) rfl h
theorem e_165_75 {ls : ab_L} {st : List Value} {w : ab_W} (h : ab_isR (ls 0) = true) : ab_Run ab_mt 165 75 ls st w = ab_Run ab_mt 165 76 ls (ab_gv (ls 0) :: st) w := E_loadr (n := 1) rfl h
theorem e_165_76 {ls : ab_L} {st : List Value} {w : ab_W} (h : ab_isI (ls 4) = true) : ab_Run ab_mt 165 76 ls st w = ab_Run ab_mt 165 78 ls (ab_gv (ls 4) :: st) w := E_loadi (n := 2) rfl h
theorem e_165_78 {ls : ab_L} {st : List Value} {w : ab_W} (h : ab_isI (ls 5) = true) : ab_Run ab_mt 165 78 ls st w = ab_Run ab_mt 165 80 ls (ab_gv (ls 5) :: st) w := E_loadi (n := 2) rfl h
theorem e_165_80 {ls : ab_L} {st : List Value} {w : ab_W} {v0 v1 v2 : Value} (h1 : ab_recv ab_mt 123 [v0, v1, v2] w.2 = true) (h8 : ab_w8 st = true) : ab_Run ab_mt 165 80 ls (v2 :: v1 :: v0 :: st) w = ab_aft 123 165 80 ls st (ab_Cl 123 [v0, v1, v2] w) := E_call3 rfl h1 h8
theorem e_165_83 {ls : ab_L} {st : List Value} {w : ab_W} {v0 v1 : Value} (h1 : ab_recv ab_mt 155 [v0, v1] w.2 = true) (h8 : ab_w8 st = true) : ab_Run ab_mt 165 83 ls (v1 :: v0 :: st) w = ab_aft 155 165 83 ls st (ab_Cl 155 [v0, v1] w) := E_call2 rfl h1 h8
theorem e_165_86 {ls : ab_L} {st : List Value} {w : ab_W} {v0 v1 v2 : Value} (h1 : ab_recv ab_mt 164 [v0, v1, v2] w.2 = true) (h8 : ab_w8 st = true) : ab_Run ab_mt 165 86 ls (v2 :: v1 :: v0 :: st) w = ab_aft 164 165 86 ls st (ab_Cl 164 [v0, v1, v2] w) := E_call3 rfl h1 h8
theorem e_165_89 {ls : ab_L} {st : List Value} {w : ab_W} {x : Int64} : ab_Run ab_mt 165 89 ls (.long x :: st) w = ab_Run ab_mt 165 90 (ab_l2 ls 1 (.long x)) st w := E_storl (n := 1) rfl
theorem e_165_90 {ls : ab_L} {st : List Value} {w : ab_W} (h : ab_isI (ls 5) = true) : ab_Run ab_mt 165 90 ls st w = ab_Run ab_mt 165 93 (ab_l1 ls 5 (.int (ab_gi (ls 5) + (nI 1)))) st w := E_iinc rfl h
theorem e_165_93 {ls : ab_L} {st : List Value} {w : ab_W} : ab_Run ab_mt 165 93 ls st w = ab_Run ab_mt 165 55 ls st w := E_goto rfl
theorem e_165_96 {ls : ab_L} {st : List Value} {w : ab_W} (h : ab_isI (ls 4) = true) : ab_Run ab_mt 165 96 ls st w = ab_Run ab_mt 165 99 (ab_l1 ls 4 (.int (ab_gi (ls 4) + (nI 1)))) st w := E_iinc rfl h
theorem e_165_99 {ls : ab_L} {st : List Value} {w : ab_W} : ab_Run ab_mt 165 99 ls st w = ab_Run ab_mt 165 46 ls st w := E_goto rfl
theorem e_165_102 {ls : ab_L} {st : List Value} {w : ab_W} (h : ab_isL (ls 1) = true) (h2 : (ls 2).isNone = true) : ab_Run ab_mt 165 102 ls st w = ab_Run ab_mt 165 103 ls (ab_gv (ls 1) :: st) w := E_loadl (n := 1) rfl h h2
theorem e_165_103 {ls : ab_L} {w : ab_W} {x : Int64} : ab_Run ab_mt 165 103 ls [.long x] w = some (.inl (some (.long x)), w) := E_retl rfl
theorem rv_165 {σ : ab_S} {t : Nat} : ab_recv ab_mt 165 [.ref t] σ = ab_isO 7 (σ t) := rfl
theorem e_166_0 {ls : ab_L} {st : List Value} {w : ab_W} : ab_Run ab_mt 166 0 ls st w = ab_Run ab_mt 166 3 ls (.long (-1) :: st) w := E_push (n := 3) rfl
theorem e_166_3 {ls : ab_L} {st : List Value} {w : ab_W} {x : Int64} : ab_Run ab_mt 166 3 ls (.long x :: st) w = ab_Run ab_mt 166 4 (ab_l2 ls 1 (.long x)) st w := E_storl (n := 1) rfl
theorem e_166_4 {ls : ab_L} {st : List Value} {w : ab_W} : ab_Run ab_mt 166 4 ls st w = ab_Run ab_mt 166 5 ls (.int (nI 0) :: st) w := E_push (n := 1) rfl
theorem e_166_5 {ls : ab_L} {st : List Value} {w : ab_W} {x : Int32} : ab_Run ab_mt 166 5 ls (.int x :: st) w = ab_Run ab_mt 166 6 (ab_l1 ls 3 (.int x)) st w := E_stori (n := 1) rfl
theorem e_166_6 {ls : ab_L} {st : List Value} {w : ab_W} (h : ab_isI (ls 3) = true) : ab_Run ab_mt 166 6 ls st w = ab_Run ab_mt 166 7 ls (ab_gv (ls 3) :: st) w := E_loadi (n := 1) rfl h
theorem e_166_7 {ls : ab_L} {st : List Value} {w : ab_W} (h : ab_isR (ls 0) = true) : ab_Run ab_mt 166 7 ls st w = ab_Run ab_mt 166 8 ls (ab_gv (ls 0) :: st) w := E_loadr (n := 1) rfl h
theorem e_166_8 {ls : ab_L} {st : List Value} {w : ab_W} {a : Nat} (h : ab_isF 7 1 (w.2 a) = true) : ab_Run ab_mt 166 8 ls (.ref a :: st) w = ab_Run ab_mt 166 11 ls (ab_fv 1 (w.2 a) :: st) w := E_get rfl h
theorem e_166_11 {ls : ab_L} {st : List Value} {w : ab_W} : ab_Run ab_mt 166 11 ls st w = ab_Run ab_mt 166 14 ls (.int (nI 192) :: st) w := E_push (n := 3) rfl
theorem e_166_14 {ls : ab_L} {st : List Value} {w : ab_W} {a : Nat} {i : Int32} (h : ab_inI i (w.2 a) = true) : ab_Run ab_mt 166 14 ls (.int i :: .ref a :: st) w = ab_Run ab_mt 166 15 ls (.int (ab_aI i.toNatClampNeg (w.2 a)) :: st) w := E_iald rfl h
theorem e_166_15 {ls : ab_L} {st : List Value} {w : ab_W} {x y : Int32} : ab_Run ab_mt 166 15 ls (.int y :: .int x :: st) w = if y ≤ x then ab_Run ab_mt 166 47 ls st w else ab_Run ab_mt 166 18 ls st w := E_ic_ge rfl
theorem e_166_18 {ls : ab_L} {st : List Value} {w : ab_W} (h : ab_isR (ls 0) = true) : ab_Run ab_mt 166 18 ls st w = ab_Run ab_mt 166 19 ls (ab_gv (ls 0) :: st) w := E_loadr (n := 1) rfl h
theorem e_166_19 {ls : ab_L} {st : List Value} {w : ab_W} (h : ab_isI (ls 3) = true) : ab_Run ab_mt 166 19 ls st w = ab_Run ab_mt 166 20 ls (ab_gv (ls 3) :: st) w := E_loadi (n := 1) rfl h
theorem e_166_20 {ls : ab_L} {st : List Value} {w : ab_W} {v0 v1 : Value} (h1 : ab_recv ab_mt 158 [v0, v1] w.2 = true) (h8 : ab_w8 st = true) : ab_Run ab_mt 166 20 ls (v1 :: v0 :: st) w = ab_aft 158 166 20 ls st (ab_Cl 158 [v0, v1] w) := E_call2 rfl h1 h8
theorem e_166_23 {ls : ab_L} {st : List Value} {w : ab_W} {x : Int32} : ab_Run ab_mt 166 23 ls (.int x :: st) w = if x = 0 then ab_Run ab_mt 166 39 ls st w else ab_Run ab_mt 166 26 ls st w := E_if_eq rfl
theorem e_166_26 {ls : ab_L} {st : List Value} {w : ab_W} (h : ab_isR (ls 0) = true) : ab_Run ab_mt 166 26 ls st w = ab_Run ab_mt 166 27 ls (ab_gv (ls 0) :: st) w := E_loadr (n := 1) rfl h
theorem e_166_27 {ls : ab_L} {st : List Value} {w : ab_W} (h : ab_isL (ls 1) = true) (h2 : (ls 2).isNone = true) : ab_Run ab_mt 166 27 ls st w = ab_Run ab_mt 166 28 ls (ab_gv (ls 1) :: st) w := E_loadl (n := 1) rfl h h2
theorem e_166_28 {ls : ab_L} {st : List Value} {w : ab_W} (h : ab_isR (ls 0) = true) : ab_Run ab_mt 166 28 ls st w = ab_Run ab_mt 166 29 ls (ab_gv (ls 0) :: st) w := E_loadr (n := 1) rfl h
theorem e_166_29 {ls : ab_L} {st : List Value} {w : ab_W} (h : ab_isI (ls 3) = true) : ab_Run ab_mt 166 29 ls st w = ab_Run ab_mt 166 30 ls (ab_gv (ls 3) :: st) w := E_loadi (n := 1) rfl h
theorem e_166_30 {ls : ab_L} {st : List Value} {w : ab_W} {v0 v1 : Value} (h1 : ab_recv ab_mt 157 [v0, v1] w.2 = true) (h8 : ab_w8 st = true) : ab_Run ab_mt 166 30 ls (v1 :: v0 :: st) w = ab_aft 157 166 30 ls st (ab_Cl 157 [v0, v1] w) := E_call2 rfl h1 h8
theorem e_166_33 {ls : ab_L} {st : List Value} {w : ab_W} {v0 v1 v2 : Value} (h1 : ab_recv ab_mt 164 [v0, v1, v2] w.2 = true) (h8 : ab_w8 st = true) : ab_Run ab_mt 166 33 ls (v2 :: v1 :: v0 :: st) w = ab_aft 164 166 33 ls st (ab_Cl 164 [v0, v1, v2] w) := E_call3 rfl h1 h8
theorem e_166_36 {ls : ab_L} {st : List Value} {w : ab_W} : ab_Run ab_mt 166 36 ls st w = ab_Run ab_mt 166 40 ls st w := E_goto rfl
theorem e_166_39 {ls : ab_L} {st : List Value} {w : ab_W} (h : ab_isL (ls 1) = true) (h2 : (ls 2).isNone = true) : ab_Run ab_mt 166 39 ls st w = ab_Run ab_mt 166 40 ls (ab_gv (ls 1) :: st) w := E_loadl (n := 1) rfl h h2
theorem e_166_40 {ls : ab_L} {st : List Value} {w : ab_W} {x : Int64} : ab_Run ab_mt 166 40 ls (.long x :: st) w = ab_Run ab_mt 166 41 (ab_l2 ls 1 (.long x)) st w := E_storl (n := 1) rfl
theorem e_166_41 {ls : ab_L} {st : List Value} {w : ab_W} (h : ab_isI (ls 3) = true) : ab_Run ab_mt 166 41 ls st w = ab_Run ab_mt 166 44 (ab_l1 ls 3 (.int (ab_gi (ls 3) + (nI 1)))) st w := E_iinc rfl h
theorem e_166_44 {ls : ab_L} {st : List Value} {w : ab_W} : ab_Run ab_mt 166 44 ls st w = ab_Run ab_mt 166 6 ls st w := E_goto rfl
theorem e_166_47 {ls : ab_L} {st : List Value} {w : ab_W} (h : ab_isL (ls 1) = true) (h2 : (ls 2).isNone = true) : ab_Run ab_mt 166 47 ls st w = ab_Run ab_mt 166 48 ls (ab_gv (ls 1) :: st) w := E_loadl (n := 1) rfl h h2
theorem e_166_48 {ls : ab_L} {w : ab_W} {x : Int64} : ab_Run ab_mt 166 48 ls [.long x] w = some (.inl (some (.long x)), w) := E_retl rfl
theorem rv_166 {σ : ab_S} {t : Nat} : ab_recv ab_mt 166 [.ref t] σ = ab_isO 7 (σ t) := rfl
theorem e_167_0 {ls : ab_L} {st : List Value} {w : ab_W} (h : ab_isR (ls 0) = true) : ab_Run ab_mt 167 0 ls st w = ab_Run ab_mt 167 1 ls (ab_gv (ls 0) :: st) w := E_loadr (n := 1) rfl h
theorem e_167_1 {ls : ab_L} {st : List Value} {w : ab_W} {a : Nat} (h : ab_isF 7 9 (w.2 a) = true) : ab_Run ab_mt 167 1 ls (.ref a :: st) w = ab_Run ab_mt 167 4 ls (ab_fv 9 (w.2 a) :: st) w := E_get rfl h
theorem e_167_4 {ls : ab_L} {st : List Value} {w : ab_W} {x : Int32} : ab_Run ab_mt 167 4 ls (.int x :: st) w = if x = 0 then ab_Run ab_mt 167 7 ls st w else ab_Run ab_mt 167 11 ls st w := E_if_ne rfl
theorem e_167_7 {ls : ab_L} {st : List Value} {w : ab_W} : ab_Run ab_mt 167 7 ls st w = ab_Run ab_mt 167 10 ls (.long (-1) :: st) w := E_push (n := 3) rfl
theorem e_167_10 {ls : ab_L} {w : ab_W} {x : Int64} : ab_Run ab_mt 167 10 ls [.long x] w = some (.inl (some (.long x)), w) := E_retl rfl
theorem e_167_11 {ls : ab_L} {st : List Value} {w : ab_W} (h : ab_isI (ls 1) = true) : ab_Run ab_mt 167 11 ls st w = ab_Run ab_mt 167 12 ls (ab_gv (ls 1) :: st) w := E_loadi (n := 1) rfl h
theorem e_167_12 {ls : ab_L} {st : List Value} {w : ab_W} {x : Int32} : ab_Run ab_mt 167 12 ls (.int x :: st) w = if x.toInt < 0 ∨ 5 < x.toInt then ab_Run ab_mt 167 98 ls st w else ab_Run ab_mt 167 (([52, 57, 66, 71, 76, 87] : List Nat).getD (x.toInt - 0).toNat 0) ls st w := E_swi rfl (by decide)
theorem e_167_52 {ls : ab_L} {st : List Value} {w : ab_W} (h : ab_isR (ls 0) = true) : ab_Run ab_mt 167 52 ls st w = ab_Run ab_mt 167 53 ls (ab_gv (ls 0) :: st) w := E_loadr (n := 1) rfl h
theorem e_167_53 {ls : ab_L} {st : List Value} {w : ab_W} {a : Nat} (h : ab_isF 7 13 (w.2 a) = true) : ab_Run ab_mt 167 53 ls (.ref a :: st) w = ab_Run ab_mt 167 56 ls (ab_fv 13 (w.2 a) :: st) w := E_get rfl h
theorem e_167_56 {ls : ab_L} {w : ab_W} {x : Int64} : ab_Run ab_mt 167 56 ls [.long x] w = some (.inl (some (.long x)), w) := E_retl rfl
theorem e_167_57 {ls : ab_L} {st : List Value} {w : ab_W} (h : ab_isR (ls 0) = true) : ab_Run ab_mt 167 57 ls st w = ab_Run ab_mt 167 58 ls (ab_gv (ls 0) :: st) w := E_loadr (n := 1) rfl h
theorem e_167_58 {ls : ab_L} {st : List Value} {w : ab_W} (h : ab_isR (ls 0) = true) : ab_Run ab_mt 167 58 ls st w = ab_Run ab_mt 167 59 ls (ab_gv (ls 0) :: st) w := E_loadr (n := 1) rfl h
theorem e_167_59 {ls : ab_L} {st : List Value} {w : ab_W} {a : Nat} (h : ab_isF 7 17 (w.2 a) = true) : ab_Run ab_mt 167 59 ls (.ref a :: st) w = ab_Run ab_mt 167 62 ls (ab_fv 17 (w.2 a) :: st) w := E_get rfl h
theorem e_167_62 {ls : ab_L} {st : List Value} {w : ab_W} {v0 v1 : Value} (h1 : ab_recv ab_mt 155 [v0, v1] w.2 = true) (h8 : ab_w8 st = true) : ab_Run ab_mt 167 62 ls (v1 :: v0 :: st) w = ab_aft 155 167 62 ls st (ab_Cl 155 [v0, v1] w) := E_call2 rfl h1 h8
theorem e_167_65 {ls : ab_L} {w : ab_W} {x : Int64} : ab_Run ab_mt 167 65 ls [.long x] w = some (.inl (some (.long x)), w) := E_retl rfl
theorem e_167_66 {ls : ab_L} {st : List Value} {w : ab_W} (h : ab_isR (ls 0) = true) : ab_Run ab_mt 167 66 ls st w = ab_Run ab_mt 167 67 ls (ab_gv (ls 0) :: st) w := E_loadr (n := 1) rfl h
theorem e_167_67 {ls : ab_L} {st : List Value} {w : ab_W} {v0 : Value} (h1 : ab_recv ab_mt 165 [v0] w.2 = true) (h8 : ab_w8 st = true) : ab_Run ab_mt 167 67 ls (v0 :: st) w = ab_aft 165 167 67 ls st (ab_Cl 165 [v0] w) := E_call1 rfl h1 h8
theorem e_167_70 {ls : ab_L} {w : ab_W} {x : Int64} : ab_Run ab_mt 167 70 ls [.long x] w = some (.inl (some (.long x)), w) := E_retl rfl
theorem e_167_71 {ls : ab_L} {st : List Value} {w : ab_W} (h : ab_isR (ls 0) = true) : ab_Run ab_mt 167 71 ls st w = ab_Run ab_mt 167 72 ls (ab_gv (ls 0) :: st) w := E_loadr (n := 1) rfl h
theorem e_167_72 {ls : ab_L} {st : List Value} {w : ab_W} {v0 : Value} (h1 : ab_recv ab_mt 166 [v0] w.2 = true) (h8 : ab_w8 st = true) : ab_Run ab_mt 167 72 ls (v0 :: st) w = ab_aft 166 167 72 ls st (ab_Cl 166 [v0] w) := E_call1 rfl h1 h8
theorem e_167_75 {ls : ab_L} {w : ab_W} {x : Int64} : ab_Run ab_mt 167 75 ls [.long x] w = some (.inl (some (.long x)), w) := E_retl rfl
theorem e_167_76 {ls : ab_L} {st : List Value} {w : ab_W} (h : ab_isR (ls 0) = true) : ab_Run ab_mt 167 76 ls st w = ab_Run ab_mt 167 77 ls (ab_gv (ls 0) :: st) w := E_loadr (n := 1) rfl h
theorem e_167_77 {ls : ab_L} {st : List Value} {w : ab_W} (h : ab_isR (ls 0) = true) : ab_Run ab_mt 167 77 ls st w = ab_Run ab_mt 167 78 ls (ab_gv (ls 0) :: st) w := E_loadr (n := 1) rfl h
theorem e_167_78 {ls : ab_L} {st : List Value} {w : ab_W} {a : Nat} (h : ab_isF 7 13 (w.2 a) = true) : ab_Run ab_mt 167 78 ls (.ref a :: st) w = ab_Run ab_mt 167 81 ls (ab_fv 13 (w.2 a) :: st) w := E_get rfl h
theorem e_167_81 {ls : ab_L} {st : List Value} {w : ab_W} : ab_Run ab_mt 167 81 ls st w = ab_Run ab_mt 167 82 ls (.int (nI 0) :: st) w := E_push (n := 1) rfl
theorem e_167_82 {ls : ab_L} {st : List Value} {w : ab_W} {v0 v1 v2 : Value} (h1 : ab_recv ab_mt 160 [v0, v1, v2] w.2 = true) (h8 : ab_w8 st = true) : ab_Run ab_mt 167 82 ls (v2 :: v1 :: v0 :: st) w = ab_aft 160 167 82 ls st (ab_Cl 160 [v0, v1, v2] w) := E_call3 rfl h1 h8
theorem e_167_85 {ls : ab_L} {st : List Value} {w : ab_W} {x : Int32} : ab_Run ab_mt 167 85 ls (.int x :: st) w = ab_Run ab_mt 167 86 ls (.long x.toInt64 :: st) w := E_i2l rfl
theorem e_167_86 {ls : ab_L} {w : ab_W} {x : Int64} : ab_Run ab_mt 167 86 ls [.long x] w = some (.inl (some (.long x)), w) := E_retl rfl
theorem e_167_87 {ls : ab_L} {st : List Value} {w : ab_W} (h : ab_isR (ls 0) = true) : ab_Run ab_mt 167 87 ls st w = ab_Run ab_mt 167 88 ls (ab_gv (ls 0) :: st) w := E_loadr (n := 1) rfl h
theorem e_167_88 {ls : ab_L} {st : List Value} {w : ab_W} (h : ab_isR (ls 0) = true) : ab_Run ab_mt 167 88 ls st w = ab_Run ab_mt 167 89 ls (ab_gv (ls 0) :: st) w := E_loadr (n := 1) rfl h
theorem e_167_89 {ls : ab_L} {st : List Value} {w : ab_W} {a : Nat} (h : ab_isF 7 13 (w.2 a) = true) : ab_Run ab_mt 167 89 ls (.ref a :: st) w = ab_Run ab_mt 167 92 ls (ab_fv 13 (w.2 a) :: st) w := E_get rfl h
theorem e_167_92 {ls : ab_L} {st : List Value} {w : ab_W} : ab_Run ab_mt 167 92 ls st w = ab_Run ab_mt 167 93 ls (.int (nI 1) :: st) w := E_push (n := 1) rfl
theorem e_167_93 {ls : ab_L} {st : List Value} {w : ab_W} {v0 v1 v2 : Value} (h1 : ab_recv ab_mt 160 [v0, v1, v2] w.2 = true) (h8 : ab_w8 st = true) : ab_Run ab_mt 167 93 ls (v2 :: v1 :: v0 :: st) w = ab_aft 160 167 93 ls st (ab_Cl 160 [v0, v1, v2] w) := E_call3 rfl h1 h8
theorem e_167_96 {ls : ab_L} {st : List Value} {w : ab_W} {x : Int32} : ab_Run ab_mt 167 96 ls (.int x :: st) w = ab_Run ab_mt 167 97 ls (.long x.toInt64 :: st) w := E_i2l rfl
theorem e_167_97 {ls : ab_L} {w : ab_W} {x : Int64} : ab_Run ab_mt 167 97 ls [.long x] w = some (.inl (some (.long x)), w) := E_retl rfl
theorem e_167_98 {ls : ab_L} {st : List Value} {w : ab_W} (h : ab_isR (ls 0) = true) : ab_Run ab_mt 167 98 ls st w = ab_Run ab_mt 167 99 ls (ab_gv (ls 0) :: st) w := E_loadr (n := 1) rfl h
theorem e_167_99 {ls : ab_L} {st : List Value} {w : ab_W} (h : ab_isR (ls 0) = true) : ab_Run ab_mt 167 99 ls st w = ab_Run ab_mt 167 100 ls (ab_gv (ls 0) :: st) w := E_loadr (n := 1) rfl h
theorem e_167_100 {ls : ab_L} {st : List Value} {w : ab_W} {a : Nat} (h : ab_isF 7 13 (w.2 a) = true) : ab_Run ab_mt 167 100 ls (.ref a :: st) w = ab_Run ab_mt 167 103 ls (ab_fv 13 (w.2 a) :: st) w := E_get rfl h
theorem e_167_103 {ls : ab_L} {st : List Value} {w : ab_W} {v0 v1 : Value} (h1 : ab_recv ab_mt 161 [v0, v1] w.2 = true) (h8 : ab_w8 st = true) : ab_Run ab_mt 167 103 ls (v1 :: v0 :: st) w = ab_aft 161 167 103 ls st (ab_Cl 161 [v0, v1] w) := E_call2 rfl h1 h8
theorem e_167_106 {ls : ab_L} {st : List Value} {w : ab_W} {x : Int32} : ab_Run ab_mt 167 106 ls (.int x :: st) w = ab_Run ab_mt 167 107 ls (.long x.toInt64 :: st) w := E_i2l rfl
theorem e_167_107 {ls : ab_L} {w : ab_W} {x : Int64} : ab_Run ab_mt 167 107 ls [.long x] w = some (.inl (some (.long x)), w) := E_retl rfl
theorem rv_167 {σ : ab_S} {t : Nat} {x0 : Int32} : ab_recv ab_mt 167 [.ref t, .int x0] σ = ab_isO 7 (σ t) := rfl
theorem x_167_72 {ls : ab_L} {rest : List Value} {E : Nat} {w : ab_W} : ab_aft 166 167 72 ls rest (some (.inr E, w)) = some (.inr E, w) := ab_aft_x rfl rfl (by unfold ab_hand; rfl)
theorem x_167_103 {ls : ab_L} {rest : List Value} {E : Nat} {w : ab_W} : ab_aft 161 167 103 ls rest (some (.inr E, w)) = some (.inr E, w) := ab_aft_x rfl rfl (by unfold ab_hand; rfl)
theorem e_168_0 {ls : ab_L} {st : List Value} {w : ab_W} (h : ab_isR (ls 0) = true) : ab_Run ab_mt 168 0 ls st w = ab_Run ab_mt 168 1 ls (ab_gv (ls 0) :: st) w := E_loadr (n := 1) rfl h
theorem e_168_1 {ls : ab_L} {st : List Value} {w : ab_W} (h : ab_isI (ls 1) = true) : ab_Run ab_mt 168 1 ls st w = ab_Run ab_mt 168 2 ls (ab_gv (ls 1) :: st) w := E_loadi (n := 1) rfl h
theorem e_168_2 {ls : ab_L} {st : List Value} {w : ab_W} {x : Int32} : ab_Run ab_mt 168 2 ls (.int x :: st) w = ab_Run ab_mt 168 3 ls (.long x.toInt64 :: st) w := E_i2l rfl
theorem e_168_3 {ls : ab_L} {st : List Value} {w : ab_W} : ab_Run ab_mt 168 3 ls st w = ab_Run ab_mt 168 4 ls (.long (lN 0) :: st) w := E_push (n := 1) rfl
theorem e_168_4 {ls : ab_L} {st : List Value} {w : ab_W} : ab_Run ab_mt 168 4 ls st w = ab_Run ab_mt 168 7 ls (.long (lN 6) :: st) w := E_push (n := 3) rfl
theorem e_168_7 {ls : ab_L} {st : List Value} {w : ab_W} {v0 v1 v2 : Value} (h1 : ab_recv ab_mt 107 [v0, v1, v2] w.2 = true) (h8 : ab_w8 st = true) : ab_Run ab_mt 168 7 ls (v2 :: v1 :: v0 :: st) w = ab_aft 107 168 7 ls st (ab_Cl 107 [v0, v1, v2] w) := E_call3 rfl h1 h8
theorem e_168_10 {ls : ab_L} {st : List Value} {w : ab_W} {x : Int32} : ab_Run ab_mt 168 10 ls (.int x :: st) w = if x = 0 then ab_Run ab_mt 168 17 ls st w else ab_Run ab_mt 168 13 ls st w := E_if_eq rfl
theorem e_168_13 {ls : ab_L} {st : List Value} {w : ab_W} : ab_Run ab_mt 168 13 ls st w = ab_Run ab_mt 168 14 ls (.int (nI 0) :: st) w := E_push (n := 1) rfl
theorem e_168_14 {ls : ab_L} {st : List Value} {w : ab_W} : ab_Run ab_mt 168 14 ls st w = ab_Run ab_mt 168 18 ls st w := E_goto rfl
theorem e_168_17 {ls : ab_L} {st : List Value} {w : ab_W} : ab_Run ab_mt 168 17 ls st w = ab_Run ab_mt 168 18 ls (.int (nI 1) :: st) w := E_push (n := 1) rfl
theorem e_168_18 {ls : ab_L} {st : List Value} {w : ab_W} {a : Nat} {x : Int32} (h : ab_isF 7 0 (w.2 a) = true) : ab_Run ab_mt 168 18 ls (.int x :: .ref a :: st) w = ab_Run ab_mt 168 21 ls st (w.1, ab_up w.2 a (ab_sf 0 (.int x) (w.2 a))) := E_put rfl h rfl
theorem e_168_21 {ls : ab_L} {st : List Value} {w : ab_W} (h : ab_isR (ls 0) = true) : ab_Run ab_mt 168 21 ls st w = ab_Run ab_mt 168 22 ls (ab_gv (ls 0) :: st) w := E_loadr (n := 1) rfl h
theorem e_168_22 {ls : ab_L} {st : List Value} {w : ab_W} {a : Nat} (h : ab_isF 7 0 (w.2 a) = true) : ab_Run ab_mt 168 22 ls (.ref a :: st) w = ab_Run ab_mt 168 25 ls (ab_fv 0 (w.2 a) :: st) w := E_get rfl h
theorem e_168_25 {ls : ab_L} {st : List Value} {w : ab_W} {x : Int32} : ab_Run ab_mt 168 25 ls (.int x :: st) w = if x ≤ 0 then ab_Run ab_mt 168 30 ls st w else ab_Run ab_mt 168 28 ls st w := E_if_le rfl
theorem e_168_28 {ls : ab_L} {st : List Value} {w : ab_W} : ab_Run ab_mt 168 28 ls st w = ab_Run ab_mt 168 29 ls (.long (lN 0) :: st) w := E_push (n := 1) rfl
theorem e_168_29 {ls : ab_L} {w : ab_W} {x : Int64} : ab_Run ab_mt 168 29 ls [.long x] w = some (.inl (some (.long x)), w) := E_retl rfl
theorem e_168_30 {ls : ab_L} {st : List Value} {w : ab_W} (h : ab_isR (ls 0) = true) : ab_Run ab_mt 168 30 ls st w = ab_Run ab_mt 168 31 ls (ab_gv (ls 0) :: st) w := E_loadr (n := 1) rfl h
theorem e_168_31 {ls : ab_L} {st : List Value} {w : ab_W} {v0 : Value} (h1 : ab_recv ab_mt 122 [v0] w.2 = true) (h8 : ab_w8 st = true) : ab_Run ab_mt 168 31 ls (v0 :: st) w = ab_aft 122 168 31 ls st (ab_Cl 122 [v0] w) := E_call1 rfl h1 h8
theorem e_168_34 {ls : ab_L} {st : List Value} {w : ab_W} (h : ab_isR (ls 0) = true) : ab_Run ab_mt 168 34 ls st w = ab_Run ab_mt 168 35 ls (ab_gv (ls 0) :: st) w := E_loadr (n := 1) rfl h
theorem e_168_35 {ls : ab_L} {st : List Value} {w : ab_W} (h : ab_isI (ls 1) = true) : ab_Run ab_mt 168 35 ls st w = ab_Run ab_mt 168 36 ls (ab_gv (ls 1) :: st) w := E_loadi (n := 1) rfl h
theorem e_168_36 {ls : ab_L} {st : List Value} {w : ab_W} {v0 v1 : Value} (h1 : ab_recv ab_mt 167 [v0, v1] w.2 = true) (h8 : ab_w8 st = true) : ab_Run ab_mt 168 36 ls (v1 :: v0 :: st) w = ab_aft 167 168 36 ls st (ab_Cl 167 [v0, v1] w) := E_call2 rfl h1 h8
theorem e_168_39 {ls : ab_L} {w : ab_W} {x : Int64} : ab_Run ab_mt 168 39 ls [.long x] w = some (.inl (some (.long x)), w) := E_retl rfl
theorem rv_168 {σ : ab_S} {t : Nat} {x0 : Int32} : ab_recv ab_mt 168 [.ref t, .int x0] σ = ab_isO 7 (σ t) := rfl
theorem x_168_31 {ls : ab_L} {rest : List Value} {E : Nat} {w : ab_W} : ab_aft 122 168 31 ls rest (some (.inr E, w)) = some (.inr E, w) := ab_aft_x rfl rfl (by unfold ab_hand; rfl)
theorem x_168_36 {ls : ab_L} {rest : List Value} {E : Nat} {w : ab_W} : ab_aft 167 168 36 ls rest (some (.inr E, w)) = some (.inr E, w) := ab_aft_x rfl rfl (by unfold ab_hand; rfl)
theorem e_169_0 {ls : ab_L} {st : List Value} {w : ab_W} (h : ab_isR (ls 0) = true) : ab_Run ab_mt 169 0 ls st w = ab_Run ab_mt 169 1 ls (ab_gv (ls 0) :: st) w := E_loadr (n := 1) rfl h
theorem e_169_1 {ls : ab_L} {st : List Value} {w : ab_W} (h : ab_isR (ls 0) = true) : ab_Run ab_mt 169 1 ls st w = ab_Run ab_mt 169 2 ls (ab_gv (ls 0) :: st) w := E_loadr (n := 1) rfl h
theorem e_169_2 {ls : ab_L} {st : List Value} {w : ab_W} (h : ab_isI (ls 1) = true) : ab_Run ab_mt 169 2 ls st w = ab_Run ab_mt 169 3 ls (ab_gv (ls 1) :: st) w := E_loadi (n := 1) rfl h
theorem e_169_3 {ls : ab_L} {st : List Value} {w : ab_W} {v0 v1 : Value} (h1 : ab_recv ab_mt 112 [v0, v1] w.2 = true) (h8 : ab_w8 st = true) : ab_Run ab_mt 169 3 ls (v1 :: v0 :: st) w = ab_aft 112 169 3 ls st (ab_Cl 112 [v0, v1] w) := E_call2 rfl h1 h8
theorem e_169_6 {ls : ab_L} {st : List Value} {w : ab_W} {x : Int32} : ab_Run ab_mt 169 6 ls (.int x :: st) w = if x = 0 then ab_Run ab_mt 169 9 ls st w else ab_Run ab_mt 169 13 ls st w := E_if_ne rfl
theorem e_169_9 {ls : ab_L} {st : List Value} {w : ab_W} : ab_Run ab_mt 169 9 ls st w = ab_Run ab_mt 169 10 ls (.int (nI 1) :: st) w := E_push (n := 1) rfl
theorem e_169_10 {ls : ab_L} {st : List Value} {w : ab_W} : ab_Run ab_mt 169 10 ls st w = ab_Run ab_mt 169 30 ls st w := E_goto rfl
theorem e_169_13 {ls : ab_L} {st : List Value} {w : ab_W} (h : ab_isI (ls 2) = true) : ab_Run ab_mt 169 13 ls st w = ab_Run ab_mt 169 14 ls (ab_gv (ls 2) :: st) w := E_loadi (n := 1) rfl h
theorem e_169_14 {ls : ab_L} {st : List Value} {w : ab_W} {x : Int32} : ab_Run ab_mt 169 14 ls (.int x :: st) w = ab_Run ab_mt 169 15 ls (.long x.toInt64 :: st) w := E_i2l rfl
theorem e_169_15 {ls : ab_L} {st : List Value} {w : ab_W} : ab_Run ab_mt 169 15 ls st w = ab_Run ab_mt 169 16 ls (.long (lN 0) :: st) w := E_push (n := 1) rfl
theorem e_169_16 {ls : ab_L} {st : List Value} {w : ab_W} : ab_Run ab_mt 169 16 ls st w = ab_Run ab_mt 169 19 ls (.long (lN 5) :: st) w := E_push (n := 3) rfl
theorem e_169_19 {ls : ab_L} {st : List Value} {w : ab_W} {v0 v1 v2 : Value} (h1 : ab_recv ab_mt 107 [v0, v1, v2] w.2 = true) (h8 : ab_w8 st = true) : ab_Run ab_mt 169 19 ls (v2 :: v1 :: v0 :: st) w = ab_aft 107 169 19 ls st (ab_Cl 107 [v0, v1, v2] w) := E_call3 rfl h1 h8
theorem e_169_22 {ls : ab_L} {st : List Value} {w : ab_W} {x : Int32} : ab_Run ab_mt 169 22 ls (.int x :: st) w = if x = 0 then ab_Run ab_mt 169 29 ls st w else ab_Run ab_mt 169 25 ls st w := E_if_eq rfl
theorem e_169_25 {ls : ab_L} {st : List Value} {w : ab_W} : ab_Run ab_mt 169 25 ls st w = ab_Run ab_mt 169 26 ls (.int (nI 0) :: st) w := E_push (n := 1) rfl
theorem e_169_26 {ls : ab_L} {st : List Value} {w : ab_W} : ab_Run ab_mt 169 26 ls st w = ab_Run ab_mt 169 30 ls st w := E_goto rfl
theorem e_169_29 {ls : ab_L} {st : List Value} {w : ab_W} : ab_Run ab_mt 169 29 ls st w = ab_Run ab_mt 169 30 ls (.int (nI 2) :: st) w := E_push (n := 1) rfl
theorem e_169_30 {ls : ab_L} {st : List Value} {w : ab_W} {a : Nat} {x : Int32} (h : ab_isF 7 0 (w.2 a) = true) : ab_Run ab_mt 169 30 ls (.int x :: .ref a :: st) w = ab_Run ab_mt 169 33 ls st (w.1, ab_up w.2 a (ab_sf 0 (.int x) (w.2 a))) := E_put rfl h rfl
theorem e_169_33 {ls : ab_L} {st : List Value} {w : ab_W} (h : ab_isR (ls 0) = true) : ab_Run ab_mt 169 33 ls st w = ab_Run ab_mt 169 34 ls (ab_gv (ls 0) :: st) w := E_loadr (n := 1) rfl h
theorem e_169_34 {ls : ab_L} {st : List Value} {w : ab_W} {a : Nat} (h : ab_isF 7 0 (w.2 a) = true) : ab_Run ab_mt 169 34 ls (.ref a :: st) w = ab_Run ab_mt 169 37 ls (ab_fv 0 (w.2 a) :: st) w := E_get rfl h
theorem e_169_37 {ls : ab_L} {st : List Value} {w : ab_W} {x : Int32} : ab_Run ab_mt 169 37 ls (.int x :: st) w = if x ≤ 0 then ab_Run ab_mt 169 44 ls st w else ab_Run ab_mt 169 40 ls st w := E_if_le rfl
theorem e_169_40 {ls : ab_L} {st : List Value} {w : ab_W} : ab_Run ab_mt 169 40 ls st w = ab_Run ab_mt 169 41 ls (.int (nI 0) :: st) w := E_push (n := 1) rfl
theorem e_169_41 {ls : ab_L} {st : List Value} {w : ab_W} : ab_Run ab_mt 169 41 ls st w = ab_Run ab_mt 169 63 ls st w := E_goto rfl
theorem e_169_44 {ls : ab_L} {st : List Value} {w : ab_W} (h : ab_isI (ls 2) = true) : ab_Run ab_mt 169 44 ls st w = ab_Run ab_mt 169 45 ls (ab_gv (ls 2) :: st) w := E_loadi (n := 1) rfl h
theorem e_169_45 {ls : ab_L} {st : List Value} {w : ab_W} : ab_Run ab_mt 169 45 ls st w = ab_Run ab_mt 169 46 ls (.int (nI 5) :: st) w := E_push (n := 1) rfl
theorem e_169_46 {ls : ab_L} {st : List Value} {w : ab_W} {x y : Int32} : ab_Run ab_mt 169 46 ls (.int y :: .int x :: st) w = if x = y then ab_Run ab_mt 169 49 ls st w else ab_Run ab_mt 169 57 ls st w := E_ic_ne rfl
theorem e_169_49 {ls : ab_L} {st : List Value} {w : ab_W} (h : ab_isR (ls 0) = true) : ab_Run ab_mt 169 49 ls st w = ab_Run ab_mt 169 50 ls (ab_gv (ls 0) :: st) w := E_loadr (n := 1) rfl h
theorem e_169_50 {ls : ab_L} {st : List Value} {w : ab_W} (h : ab_isI (ls 1) = true) : ab_Run ab_mt 169 50 ls st w = ab_Run ab_mt 169 51 ls (ab_gv (ls 1) :: st) w := E_loadi (n := 1) rfl h
theorem e_169_51 {ls : ab_L} {st : List Value} {w : ab_W} {v0 v1 : Value} (h1 : ab_recv ab_mt 113 [v0, v1] w.2 = true) (h8 : ab_w8 st = true) : ab_Run ab_mt 169 51 ls (v1 :: v0 :: st) w = ab_aft 113 169 51 ls st (ab_Cl 113 [v0, v1] w) := E_call2 rfl h1 h8
theorem e_169_54 {ls : ab_L} {st : List Value} {w : ab_W} : ab_Run ab_mt 169 54 ls st w = ab_Run ab_mt 169 63 ls st w := E_goto rfl
theorem e_169_57 {ls : ab_L} {st : List Value} {w : ab_W} (h : ab_isR (ls 0) = true) : ab_Run ab_mt 169 57 ls st w = ab_Run ab_mt 169 58 ls (ab_gv (ls 0) :: st) w := E_loadr (n := 1) rfl h
theorem e_169_58 {ls : ab_L} {st : List Value} {w : ab_W} (h : ab_isI (ls 1) = true) : ab_Run ab_mt 169 58 ls st w = ab_Run ab_mt 169 59 ls (ab_gv (ls 1) :: st) w := E_loadi (n := 1) rfl h
theorem e_169_59 {ls : ab_L} {st : List Value} {w : ab_W} (h : ab_isI (ls 2) = true) : ab_Run ab_mt 169 59 ls st w = ab_Run ab_mt 169 60 ls (ab_gv (ls 2) :: st) w := E_loadi (n := 1) rfl h
theorem e_169_60 {ls : ab_L} {st : List Value} {w : ab_W} {v0 v1 v2 : Value} (h1 : ab_recv ab_mt 109 [v0, v1, v2] w.2 = true) (h8 : ab_w8 st = true) : ab_Run ab_mt 169 60 ls (v2 :: v1 :: v0 :: st) w = ab_aft 109 169 60 ls st (ab_Cl 109 [v0, v1, v2] w) := E_call3 rfl h1 h8
theorem e_169_63 {ls : ab_L} {w : ab_W} {x : Int32} : ab_Run ab_mt 169 63 ls [.int x] w = some (.inl (some (.int x)), w) := E_reti rfl
theorem rv_169 {σ : ab_S} {t : Nat} {x0 : Int32} {x1 : Int32} : ab_recv ab_mt 169 [.ref t, .int x0, .int x1] σ = ab_isO 7 (σ t) := rfl
theorem e_170_0 {ls : ab_L} {st : List Value} {w : ab_W} (h : ab_isI (ls 2) = true) : ab_Run ab_mt 170 0 ls st w = ab_Run ab_mt 170 1 ls (ab_gv (ls 2) :: st) w := E_loadi (n := 1) rfl h
theorem e_170_1 {ls : ab_L} {st : List Value} {w : ab_W} {x : Int32} : ab_Run ab_mt 170 1 ls (.int x :: st) w = if x.toInt < 0 ∨ 5 < x.toInt then ab_Run ab_mt 170 89 ls st w else ab_Run ab_mt 170 (([40, 48, 62, 69, 75, 82] : List Nat).getD (x.toInt - 0).toNat 0) ls st w := E_swi rfl (by decide)
theorem e_170_40 {ls : ab_L} {st : List Value} {w : ab_W} (h : ab_isR (ls 0) = true) : ab_Run ab_mt 170 40 ls st w = ab_Run ab_mt 170 41 ls (ab_gv (ls 0) :: st) w := E_loadr (n := 1) rfl h
theorem e_170_41 {ls : ab_L} {st : List Value} {w : ab_W} {a : Nat} (h : ab_isF 7 14 (w.2 a) = true) : ab_Run ab_mt 170 41 ls (.ref a :: st) w = ab_Run ab_mt 170 44 ls (ab_fv 14 (w.2 a) :: st) w := E_get rfl h
theorem e_170_44 {ls : ab_L} {st : List Value} {w : ab_W} (h : ab_isI (ls 1) = true) : ab_Run ab_mt 170 44 ls st w = ab_Run ab_mt 170 45 ls (ab_gv (ls 1) :: st) w := E_loadi (n := 1) rfl h
theorem e_170_45 {ls : ab_L} {st : List Value} {w : ab_W} {a : Nat} {i : Int32} (h : ab_inI i (w.2 a) = true) : ab_Run ab_mt 170 45 ls (.int i :: .ref a :: st) w = ab_Run ab_mt 170 46 ls (.int (ab_aI i.toNatClampNeg (w.2 a)) :: st) w := E_iald rfl h
theorem e_170_46 {ls : ab_L} {st : List Value} {w : ab_W} {x : Int32} : ab_Run ab_mt 170 46 ls (.int x :: st) w = ab_Run ab_mt 170 47 ls (.long x.toInt64 :: st) w := E_i2l rfl
theorem e_170_47 {ls : ab_L} {w : ab_W} {x : Int64} : ab_Run ab_mt 170 47 ls [.long x] w = some (.inl (some (.long x)), w) := E_retl rfl
theorem e_170_48 {ls : ab_L} {st : List Value} {w : ab_W} (h : ab_isI (ls 1) = true) : ab_Run ab_mt 170 48 ls st w = ab_Run ab_mt 170 49 ls (ab_gv (ls 1) :: st) w := E_loadi (n := 1) rfl h
theorem e_170_49 {ls : ab_L} {st : List Value} {w : ab_W} (h : ab_isR (ls 0) = true) : ab_Run ab_mt 170 49 ls st w = ab_Run ab_mt 170 50 ls (ab_gv (ls 0) :: st) w := E_loadr (n := 1) rfl h
theorem e_170_50 {ls : ab_L} {st : List Value} {w : ab_W} (h : ab_isR (ls 0) = true) : ab_Run ab_mt 170 50 ls st w = ab_Run ab_mt 170 51 ls (ab_gv (ls 0) :: st) w := E_loadr (n := 1) rfl h
theorem e_170_51 {ls : ab_L} {st : List Value} {w : ab_W} {a : Nat} (h : ab_isF 7 14 (w.2 a) = true) : ab_Run ab_mt 170 51 ls (.ref a :: st) w = ab_Run ab_mt 170 54 ls (ab_fv 14 (w.2 a) :: st) w := E_get rfl h
theorem e_170_54 {ls : ab_L} {st : List Value} {w : ab_W} (h : ab_isI (ls 1) = true) : ab_Run ab_mt 170 54 ls st w = ab_Run ab_mt 170 55 ls (ab_gv (ls 1) :: st) w := E_loadi (n := 1) rfl h
theorem e_170_55 {ls : ab_L} {st : List Value} {w : ab_W} {a : Nat} {i : Int32} (h : ab_inI i (w.2 a) = true) : ab_Run ab_mt 170 55 ls (.int i :: .ref a :: st) w = ab_Run ab_mt 170 56 ls (.int (ab_aI i.toNatClampNeg (w.2 a)) :: st) w := E_iald rfl h
theorem e_170_56 {ls : ab_L} {st : List Value} {w : ab_W} {v0 v1 : Value} (h1 : ab_recv ab_mt 113 [v0, v1] w.2 = true) (h8 : ab_w8 st = true) : ab_Run ab_mt 170 56 ls (v1 :: v0 :: st) w = ab_aft 113 170 56 ls st (ab_Cl 113 [v0, v1] w) := E_call2 rfl h1 h8
theorem e_170_59 {ls : ab_L} {st : List Value} {w : ab_W} {x y : Int32} : ab_Run ab_mt 170 59 ls (.int y :: .int x :: st) w = ab_Run ab_mt 170 60 ls (.int (x - y) :: st) w := E_ib (f := fun x y => x - y) rfl
theorem e_170_60 {ls : ab_L} {st : List Value} {w : ab_W} {x : Int32} : ab_Run ab_mt 170 60 ls (.int x :: st) w = ab_Run ab_mt 170 61 ls (.long x.toInt64 :: st) w := E_i2l rfl
theorem e_170_61 {ls : ab_L} {w : ab_W} {x : Int64} : ab_Run ab_mt 170 61 ls [.long x] w = some (.inl (some (.long x)), w) := E_retl rfl
theorem e_170_62 {ls : ab_L} {st : List Value} {w : ab_W} (h : ab_isR (ls 0) = true) : ab_Run ab_mt 170 62 ls st w = ab_Run ab_mt 170 63 ls (ab_gv (ls 0) :: st) w := E_loadr (n := 1) rfl h
theorem e_170_63 {ls : ab_L} {st : List Value} {w : ab_W} (h : ab_isI (ls 1) = true) : ab_Run ab_mt 170 63 ls st w = ab_Run ab_mt 170 64 ls (ab_gv (ls 1) :: st) w := E_loadi (n := 1) rfl h
theorem e_170_64 {ls : ab_L} {st : List Value} {w : ab_W} {v0 v1 : Value} (h1 : ab_recv ab_mt 118 [v0, v1] w.2 = true) (h8 : ab_w8 st = true) : ab_Run ab_mt 170 64 ls (v1 :: v0 :: st) w = ab_aft 118 170 64 ls st (ab_Cl 118 [v0, v1] w) := E_call2 rfl h1 h8
theorem e_170_67 {ls : ab_L} {st : List Value} {w : ab_W} {x : Int32} : ab_Run ab_mt 170 67 ls (.int x :: st) w = ab_Run ab_mt 170 68 ls (.long x.toInt64 :: st) w := E_i2l rfl
theorem e_170_68 {ls : ab_L} {w : ab_W} {x : Int64} : ab_Run ab_mt 170 68 ls [.long x] w = some (.inl (some (.long x)), w) := E_retl rfl
theorem e_170_69 {ls : ab_L} {st : List Value} {w : ab_W} (h : ab_isR (ls 0) = true) : ab_Run ab_mt 170 69 ls st w = ab_Run ab_mt 170 70 ls (ab_gv (ls 0) :: st) w := E_loadr (n := 1) rfl h
theorem e_170_70 {ls : ab_L} {st : List Value} {w : ab_W} (h : ab_isI (ls 1) = true) : ab_Run ab_mt 170 70 ls st w = ab_Run ab_mt 170 71 ls (ab_gv (ls 1) :: st) w := E_loadi (n := 1) rfl h
theorem e_170_71 {ls : ab_L} {st : List Value} {w : ab_W} {v0 v1 : Value} (h1 : ab_recv ab_mt 119 [v0, v1] w.2 = true) (h8 : ab_w8 st = true) : ab_Run ab_mt 170 71 ls (v1 :: v0 :: st) w = ab_aft 119 170 71 ls st (ab_Cl 119 [v0, v1] w) := E_call2 rfl h1 h8
theorem e_170_74 {ls : ab_L} {w : ab_W} {x : Int64} : ab_Run ab_mt 170 74 ls [.long x] w = some (.inl (some (.long x)), w) := E_retl rfl
theorem e_170_75 {ls : ab_L} {st : List Value} {w : ab_W} (h : ab_isR (ls 0) = true) : ab_Run ab_mt 170 75 ls st w = ab_Run ab_mt 170 76 ls (ab_gv (ls 0) :: st) w := E_loadr (n := 1) rfl h
theorem e_170_76 {ls : ab_L} {st : List Value} {w : ab_W} {a : Nat} (h : ab_isF 7 15 (w.2 a) = true) : ab_Run ab_mt 170 76 ls (.ref a :: st) w = ab_Run ab_mt 170 79 ls (ab_fv 15 (w.2 a) :: st) w := E_get rfl h
theorem e_170_79 {ls : ab_L} {st : List Value} {w : ab_W} (h : ab_isI (ls 1) = true) : ab_Run ab_mt 170 79 ls st w = ab_Run ab_mt 170 80 ls (ab_gv (ls 1) :: st) w := E_loadi (n := 1) rfl h
theorem e_170_80 {ls : ab_L} {st : List Value} {w : ab_W} {a : Nat} {i : Int32} (h : ab_inL i (w.2 a) = true) : ab_Run ab_mt 170 80 ls (.int i :: .ref a :: st) w = ab_Run ab_mt 170 81 ls (.long (ab_aL i.toNatClampNeg (w.2 a)) :: st) w := E_lald rfl h
theorem e_170_81 {ls : ab_L} {w : ab_W} {x : Int64} : ab_Run ab_mt 170 81 ls [.long x] w = some (.inl (some (.long x)), w) := E_retl rfl
theorem e_170_82 {ls : ab_L} {st : List Value} {w : ab_W} (h : ab_isR (ls 0) = true) : ab_Run ab_mt 170 82 ls st w = ab_Run ab_mt 170 83 ls (ab_gv (ls 0) :: st) w := E_loadr (n := 1) rfl h
theorem e_170_83 {ls : ab_L} {st : List Value} {w : ab_W} {a : Nat} (h : ab_isF 7 16 (w.2 a) = true) : ab_Run ab_mt 170 83 ls (.ref a :: st) w = ab_Run ab_mt 170 86 ls (ab_fv 16 (w.2 a) :: st) w := E_get rfl h
theorem e_170_86 {ls : ab_L} {st : List Value} {w : ab_W} (h : ab_isI (ls 1) = true) : ab_Run ab_mt 170 86 ls st w = ab_Run ab_mt 170 87 ls (ab_gv (ls 1) :: st) w := E_loadi (n := 1) rfl h
theorem e_170_87 {ls : ab_L} {st : List Value} {w : ab_W} {a : Nat} {i : Int32} (h : ab_inL i (w.2 a) = true) : ab_Run ab_mt 170 87 ls (.int i :: .ref a :: st) w = ab_Run ab_mt 170 88 ls (.long (ab_aL i.toNatClampNeg (w.2 a)) :: st) w := E_lald rfl h
theorem e_170_88 {ls : ab_L} {w : ab_W} {x : Int64} : ab_Run ab_mt 170 88 ls [.long x] w = some (.inl (some (.long x)), w) := E_retl rfl
theorem e_170_89 {ls : ab_L} {st : List Value} {w : ab_W} (h : ab_isR (ls 0) = true) : ab_Run ab_mt 170 89 ls st w = ab_Run ab_mt 170 90 ls (ab_gv (ls 0) :: st) w := E_loadr (n := 1) rfl h
theorem e_170_90 {ls : ab_L} {st : List Value} {w : ab_W} (h : ab_isI (ls 1) = true) : ab_Run ab_mt 170 90 ls st w = ab_Run ab_mt 170 91 ls (ab_gv (ls 1) :: st) w := E_loadi (n := 1) rfl h
theorem e_170_91 {ls : ab_L} {st : List Value} {w : ab_W} {v0 v1 : Value} (h1 : ab_recv ab_mt 125 [v0, v1] w.2 = true) (h8 : ab_w8 st = true) : ab_Run ab_mt 170 91 ls (v1 :: v0 :: st) w = ab_aft 125 170 91 ls st (ab_Cl 125 [v0, v1] w) := E_call2 rfl h1 h8
theorem e_170_94 {ls : ab_L} {st : List Value} {w : ab_W} {x : Int32} : ab_Run ab_mt 170 94 ls (.int x :: st) w = if x = 0 then ab_Run ab_mt 170 101 ls st w else ab_Run ab_mt 170 97 ls st w := E_if_eq rfl
theorem e_170_97 {ls : ab_L} {st : List Value} {w : ab_W} : ab_Run ab_mt 170 97 ls st w = ab_Run ab_mt 170 98 ls (.long (lN 1) :: st) w := E_push (n := 1) rfl
theorem e_170_98 {ls : ab_L} {st : List Value} {w : ab_W} : ab_Run ab_mt 170 98 ls st w = ab_Run ab_mt 170 102 ls st w := E_goto rfl
theorem e_170_101 {ls : ab_L} {st : List Value} {w : ab_W} : ab_Run ab_mt 170 101 ls st w = ab_Run ab_mt 170 102 ls (.long (lN 0) :: st) w := E_push (n := 1) rfl
theorem e_170_102 {ls : ab_L} {w : ab_W} {x : Int64} : ab_Run ab_mt 170 102 ls [.long x] w = some (.inl (some (.long x)), w) := E_retl rfl
theorem rv_170 {σ : ab_S} {t : Nat} {x0 : Int32} {x1 : Int32} : ab_recv ab_mt 170 [.ref t, .int x0, .int x1] σ = ab_isO 7 (σ t) := rfl
theorem e_171_0 {ls : ab_L} {st : List Value} {w : ab_W} (h : ab_isR (ls 0) = true) : ab_Run ab_mt 171 0 ls st w = ab_Run ab_mt 171 1 ls (ab_gv (ls 0) :: st) w := E_loadr (n := 1) rfl h
theorem e_171_1 {ls : ab_L} {st : List Value} {w : ab_W} (h : ab_isR (ls 0) = true) : ab_Run ab_mt 171 1 ls st w = ab_Run ab_mt 171 2 ls (ab_gv (ls 0) :: st) w := E_loadr (n := 1) rfl h
theorem e_171_2 {ls : ab_L} {st : List Value} {w : ab_W} (h : ab_isI (ls 1) = true) : ab_Run ab_mt 171 2 ls st w = ab_Run ab_mt 171 3 ls (ab_gv (ls 1) :: st) w := E_loadi (n := 1) rfl h
theorem e_171_3 {ls : ab_L} {st : List Value} {w : ab_W} {v0 v1 : Value} (h1 : ab_recv ab_mt 115 [v0, v1] w.2 = true) (h8 : ab_w8 st = true) : ab_Run ab_mt 171 3 ls (v1 :: v0 :: st) w = ab_aft 115 171 3 ls st (ab_Cl 115 [v0, v1] w) := E_call2 rfl h1 h8
theorem e_171_6 {ls : ab_L} {st : List Value} {w : ab_W} {x : Int32} : ab_Run ab_mt 171 6 ls (.int x :: st) w = if x = 0 then ab_Run ab_mt 171 9 ls st w else ab_Run ab_mt 171 13 ls st w := E_if_ne rfl
theorem e_171_9 {ls : ab_L} {st : List Value} {w : ab_W} : ab_Run ab_mt 171 9 ls st w = ab_Run ab_mt 171 10 ls (.int (nI 1) :: st) w := E_push (n := 1) rfl
theorem e_171_10 {ls : ab_L} {st : List Value} {w : ab_W} : ab_Run ab_mt 171 10 ls st w = ab_Run ab_mt 171 30 ls st w := E_goto rfl
theorem e_171_13 {ls : ab_L} {st : List Value} {w : ab_W} (h : ab_isI (ls 2) = true) : ab_Run ab_mt 171 13 ls st w = ab_Run ab_mt 171 14 ls (ab_gv (ls 2) :: st) w := E_loadi (n := 1) rfl h
theorem e_171_14 {ls : ab_L} {st : List Value} {w : ab_W} {x : Int32} : ab_Run ab_mt 171 14 ls (.int x :: st) w = ab_Run ab_mt 171 15 ls (.long x.toInt64 :: st) w := E_i2l rfl
theorem e_171_15 {ls : ab_L} {st : List Value} {w : ab_W} : ab_Run ab_mt 171 15 ls st w = ab_Run ab_mt 171 16 ls (.long (lN 0) :: st) w := E_push (n := 1) rfl
theorem e_171_16 {ls : ab_L} {st : List Value} {w : ab_W} : ab_Run ab_mt 171 16 ls st w = ab_Run ab_mt 171 19 ls (.long (lN 6) :: st) w := E_push (n := 3) rfl
theorem e_171_19 {ls : ab_L} {st : List Value} {w : ab_W} {v0 v1 v2 : Value} (h1 : ab_recv ab_mt 107 [v0, v1, v2] w.2 = true) (h8 : ab_w8 st = true) : ab_Run ab_mt 171 19 ls (v2 :: v1 :: v0 :: st) w = ab_aft 107 171 19 ls st (ab_Cl 107 [v0, v1, v2] w) := E_call3 rfl h1 h8
theorem e_171_22 {ls : ab_L} {st : List Value} {w : ab_W} {x : Int32} : ab_Run ab_mt 171 22 ls (.int x :: st) w = if x = 0 then ab_Run ab_mt 171 29 ls st w else ab_Run ab_mt 171 25 ls st w := E_if_eq rfl
theorem e_171_25 {ls : ab_L} {st : List Value} {w : ab_W} : ab_Run ab_mt 171 25 ls st w = ab_Run ab_mt 171 26 ls (.int (nI 0) :: st) w := E_push (n := 1) rfl
theorem e_171_26 {ls : ab_L} {st : List Value} {w : ab_W} : ab_Run ab_mt 171 26 ls st w = ab_Run ab_mt 171 30 ls st w := E_goto rfl
theorem e_171_29 {ls : ab_L} {st : List Value} {w : ab_W} : ab_Run ab_mt 171 29 ls st w = ab_Run ab_mt 171 30 ls (.int (nI 2) :: st) w := E_push (n := 1) rfl
theorem e_171_30 {ls : ab_L} {st : List Value} {w : ab_W} {a : Nat} {x : Int32} (h : ab_isF 7 0 (w.2 a) = true) : ab_Run ab_mt 171 30 ls (.int x :: .ref a :: st) w = ab_Run ab_mt 171 33 ls st (w.1, ab_up w.2 a (ab_sf 0 (.int x) (w.2 a))) := E_put rfl h rfl
theorem e_171_33 {ls : ab_L} {st : List Value} {w : ab_W} (h : ab_isR (ls 0) = true) : ab_Run ab_mt 171 33 ls st w = ab_Run ab_mt 171 34 ls (ab_gv (ls 0) :: st) w := E_loadr (n := 1) rfl h
theorem e_171_34 {ls : ab_L} {st : List Value} {w : ab_W} {a : Nat} (h : ab_isF 7 0 (w.2 a) = true) : ab_Run ab_mt 171 34 ls (.ref a :: st) w = ab_Run ab_mt 171 37 ls (ab_fv 0 (w.2 a) :: st) w := E_get rfl h
theorem e_171_37 {ls : ab_L} {st : List Value} {w : ab_W} {x : Int32} : ab_Run ab_mt 171 37 ls (.int x :: st) w = if x ≤ 0 then ab_Run ab_mt 171 42 ls st w else ab_Run ab_mt 171 40 ls st w := E_if_le rfl
theorem e_171_40 {ls : ab_L} {st : List Value} {w : ab_W} : ab_Run ab_mt 171 40 ls st w = ab_Run ab_mt 171 41 ls (.long (lN 0) :: st) w := E_push (n := 1) rfl
theorem e_171_41 {ls : ab_L} {w : ab_W} {x : Int64} : ab_Run ab_mt 171 41 ls [.long x] w = some (.inl (some (.long x)), w) := E_retl rfl
theorem e_171_42 {ls : ab_L} {st : List Value} {w : ab_W} (h : ab_isR (ls 0) = true) : ab_Run ab_mt 171 42 ls st w = ab_Run ab_mt 171 43 ls (ab_gv (ls 0) :: st) w := E_loadr (n := 1) rfl h
theorem e_171_43 {ls : ab_L} {st : List Value} {w : ab_W} {v0 : Value} (h1 : ab_recv ab_mt 122 [v0] w.2 = true) (h8 : ab_w8 st = true) : ab_Run ab_mt 171 43 ls (v0 :: st) w = ab_aft 122 171 43 ls st (ab_Cl 122 [v0] w) := E_call1 rfl h1 h8
theorem e_171_46 {ls : ab_L} {st : List Value} {w : ab_W} (h : ab_isR (ls 0) = true) : ab_Run ab_mt 171 46 ls st w = ab_Run ab_mt 171 47 ls (ab_gv (ls 0) :: st) w := E_loadr (n := 1) rfl h
theorem e_171_47 {ls : ab_L} {st : List Value} {w : ab_W} (h : ab_isI (ls 1) = true) : ab_Run ab_mt 171 47 ls st w = ab_Run ab_mt 171 48 ls (ab_gv (ls 1) :: st) w := E_loadi (n := 1) rfl h
theorem e_171_48 {ls : ab_L} {st : List Value} {w : ab_W} (h : ab_isI (ls 2) = true) : ab_Run ab_mt 171 48 ls st w = ab_Run ab_mt 171 49 ls (ab_gv (ls 2) :: st) w := E_loadi (n := 1) rfl h
theorem e_171_49 {ls : ab_L} {st : List Value} {w : ab_W} {v0 v1 v2 : Value} (h1 : ab_recv ab_mt 170 [v0, v1, v2] w.2 = true) (h8 : ab_w8 st = true) : ab_Run ab_mt 171 49 ls (v2 :: v1 :: v0 :: st) w = ab_aft 170 171 49 ls st (ab_Cl 170 [v0, v1, v2] w) := E_call3 rfl h1 h8
theorem e_171_52 {ls : ab_L} {w : ab_W} {x : Int64} : ab_Run ab_mt 171 52 ls [.long x] w = some (.inl (some (.long x)), w) := E_retl rfl
theorem rv_171 {σ : ab_S} {t : Nat} {x0 : Int32} {x1 : Int32} : ab_recv ab_mt 171 [.ref t, .int x0, .int x1] σ = ab_isO 7 (σ t) := rfl
theorem x_171_43 {ls : ab_L} {rest : List Value} {E : Nat} {w : ab_W} : ab_aft 122 171 43 ls rest (some (.inr E, w)) = some (.inr E, w) := ab_aft_x rfl rfl (by unfold ab_hand; rfl)
theorem e_172_0 {ls : ab_L} {st : List Value} {w : ab_W} (h : ab_isR (ls 0) = true) : ab_Run ab_mt 172 0 ls st w = ab_Run ab_mt 172 1 ls (ab_gv (ls 0) :: st) w := E_loadr (n := 1) rfl h
theorem e_172_1 {ls : ab_L} {st : List Value} {w : ab_W} {v0 : Value} (h1 : ab_recv ab_mt 122 [v0] w.2 = true) (h8 : ab_w8 st = true) : ab_Run ab_mt 172 1 ls (v0 :: st) w = ab_aft 122 172 1 ls st (ab_Cl 122 [v0] w) := E_call1 rfl h1 h8
theorem e_172_4 {ls : ab_L} {st : List Value} {w : ab_W} (h : ab_isR (ls 0) = true) : ab_Run ab_mt 172 4 ls st w = ab_Run ab_mt 172 5 ls (ab_gv (ls 0) :: st) w := E_loadr (n := 1) rfl h
theorem e_172_5 {ls : ab_L} {st : List Value} {w : ab_W} (h : ab_isR (ls 0) = true) : ab_Run ab_mt 172 5 ls st w = ab_Run ab_mt 172 6 ls (ab_gv (ls 0) :: st) w := E_loadr (n := 1) rfl h
theorem e_172_6 {ls : ab_L} {st : List Value} {w : ab_W} (h : ab_isI (ls 1) = true) : ab_Run ab_mt 172 6 ls st w = ab_Run ab_mt 172 7 ls (ab_gv (ls 1) :: st) w := E_loadi (n := 1) rfl h
theorem e_172_7 {ls : ab_L} {st : List Value} {w : ab_W} {v0 v1 : Value} (h1 : ab_recv ab_mt 115 [v0, v1] w.2 = true) (h8 : ab_w8 st = true) : ab_Run ab_mt 172 7 ls (v1 :: v0 :: st) w = ab_aft 115 172 7 ls st (ab_Cl 115 [v0, v1] w) := E_call2 rfl h1 h8
theorem e_172_10 {ls : ab_L} {st : List Value} {w : ab_W} {x : Int32} : ab_Run ab_mt 172 10 ls (.int x :: st) w = if x = 0 then ab_Run ab_mt 172 40 ls st w else ab_Run ab_mt 172 13 ls st w := E_if_eq rfl
theorem e_172_13 {ls : ab_L} {st : List Value} {w : ab_W} (h : ab_isI (ls 2) = true) : ab_Run ab_mt 172 13 ls st w = ab_Run ab_mt 172 14 ls (ab_gv (ls 2) :: st) w := E_loadi (n := 1) rfl h
theorem e_172_14 {ls : ab_L} {st : List Value} {w : ab_W} {x : Int32} : ab_Run ab_mt 172 14 ls (.int x :: st) w = ab_Run ab_mt 172 15 ls (.long x.toInt64 :: st) w := E_i2l rfl
theorem e_172_15 {ls : ab_L} {st : List Value} {w : ab_W} : ab_Run ab_mt 172 15 ls st w = ab_Run ab_mt 172 16 ls (.long (lN 0) :: st) w := E_push (n := 1) rfl
theorem e_172_16 {ls : ab_L} {st : List Value} {w : ab_W} (h : ab_isR (ls 0) = true) : ab_Run ab_mt 172 16 ls st w = ab_Run ab_mt 172 17 ls (ab_gv (ls 0) :: st) w := E_loadr (n := 1) rfl h
theorem e_172_17 {ls : ab_L} {st : List Value} {w : ab_W} (h : ab_isR (ls 0) = true) : ab_Run ab_mt 172 17 ls st w = ab_Run ab_mt 172 18 ls (ab_gv (ls 0) :: st) w := E_loadr (n := 1) rfl h
theorem e_172_18 {ls : ab_L} {st : List Value} {w : ab_W} {a : Nat} (h : ab_isF 7 14 (w.2 a) = true) : ab_Run ab_mt 172 18 ls (.ref a :: st) w = ab_Run ab_mt 172 21 ls (ab_fv 14 (w.2 a) :: st) w := E_get rfl h
theorem e_172_21 {ls : ab_L} {st : List Value} {w : ab_W} (h : ab_isI (ls 1) = true) : ab_Run ab_mt 172 21 ls st w = ab_Run ab_mt 172 22 ls (ab_gv (ls 1) :: st) w := E_loadi (n := 1) rfl h
theorem e_172_22 {ls : ab_L} {st : List Value} {w : ab_W} {a : Nat} {i : Int32} (h : ab_inI i (w.2 a) = true) : ab_Run ab_mt 172 22 ls (.int i :: .ref a :: st) w = ab_Run ab_mt 172 23 ls (.int (ab_aI i.toNatClampNeg (w.2 a)) :: st) w := E_iald rfl h
theorem e_172_23 {ls : ab_L} {st : List Value} {w : ab_W} : ab_Run ab_mt 172 23 ls st w = ab_Run ab_mt 172 24 ls (.int (nI 1) :: st) w := E_push (n := 1) rfl
theorem e_172_24 {ls : ab_L} {st : List Value} {w : ab_W} {v0 v1 v2 : Value} (h1 : ab_recv ab_mt 109 [v0, v1, v2] w.2 = true) (h8 : ab_w8 st = true) : ab_Run ab_mt 172 24 ls (v2 :: v1 :: v0 :: st) w = ab_aft 109 172 24 ls st (ab_Cl 109 [v0, v1, v2] w) := E_call3 rfl h1 h8
theorem e_172_27 {ls : ab_L} {st : List Value} {w : ab_W} : ab_Run ab_mt 172 27 ls st w = ab_Run ab_mt 172 28 ls (.int (nI 1) :: st) w := E_push (n := 1) rfl
theorem e_172_28 {ls : ab_L} {st : List Value} {w : ab_W} {x y : Int32} : ab_Run ab_mt 172 28 ls (.int y :: .int x :: st) w = ab_Run ab_mt 172 29 ls (.int (x - y) :: st) w := E_ib (f := fun x y => x - y) rfl
theorem e_172_29 {ls : ab_L} {st : List Value} {w : ab_W} {x : Int32} : ab_Run ab_mt 172 29 ls (.int x :: st) w = ab_Run ab_mt 172 30 ls (.long x.toInt64 :: st) w := E_i2l rfl
theorem e_172_30 {ls : ab_L} {st : List Value} {w : ab_W} {v0 v1 v2 : Value} (h1 : ab_recv ab_mt 107 [v0, v1, v2] w.2 = true) (h8 : ab_w8 st = true) : ab_Run ab_mt 172 30 ls (v2 :: v1 :: v0 :: st) w = ab_aft 107 172 30 ls st (ab_Cl 107 [v0, v1, v2] w) := E_call3 rfl h1 h8
theorem e_172_33 {ls : ab_L} {st : List Value} {w : ab_W} {x : Int32} : ab_Run ab_mt 172 33 ls (.int x :: st) w = if x = 0 then ab_Run ab_mt 172 40 ls st w else ab_Run ab_mt 172 36 ls st w := E_if_eq rfl
theorem e_172_36 {ls : ab_L} {st : List Value} {w : ab_W} : ab_Run ab_mt 172 36 ls st w = ab_Run ab_mt 172 37 ls (.int (nI 0) :: st) w := E_push (n := 1) rfl
theorem e_172_37 {ls : ab_L} {st : List Value} {w : ab_W} : ab_Run ab_mt 172 37 ls st w = ab_Run ab_mt 172 41 ls st w := E_goto rfl
theorem e_172_40 {ls : ab_L} {st : List Value} {w : ab_W} : ab_Run ab_mt 172 40 ls st w = ab_Run ab_mt 172 41 ls (.int (nI 1) :: st) w := E_push (n := 1) rfl
theorem e_172_41 {ls : ab_L} {st : List Value} {w : ab_W} {a : Nat} {x : Int32} (h : ab_isF 7 0 (w.2 a) = true) : ab_Run ab_mt 172 41 ls (.int x :: .ref a :: st) w = ab_Run ab_mt 172 44 ls st (w.1, ab_up w.2 a (ab_sf 0 (.int x) (w.2 a))) := E_put rfl h rfl
theorem e_172_44 {ls : ab_L} {st : List Value} {w : ab_W} (h : ab_isR (ls 0) = true) : ab_Run ab_mt 172 44 ls st w = ab_Run ab_mt 172 45 ls (ab_gv (ls 0) :: st) w := E_loadr (n := 1) rfl h
theorem e_172_45 {ls : ab_L} {st : List Value} {w : ab_W} {a : Nat} (h : ab_isF 7 0 (w.2 a) = true) : ab_Run ab_mt 172 45 ls (.ref a :: st) w = ab_Run ab_mt 172 48 ls (ab_fv 0 (w.2 a) :: st) w := E_get rfl h
theorem e_172_48 {ls : ab_L} {st : List Value} {w : ab_W} {x : Int32} : ab_Run ab_mt 172 48 ls (.int x :: st) w = if x ≤ 0 then ab_Run ab_mt 172 55 ls st w else ab_Run ab_mt 172 51 ls st w := E_if_le rfl
theorem e_172_51 {ls : ab_L} {st : List Value} {w : ab_W} : ab_Run ab_mt 172 51 ls st w = ab_Run ab_mt 172 52 ls (.long (lN 0) :: st) w := E_push (n := 1) rfl
theorem e_172_52 {ls : ab_L} {st : List Value} {w : ab_W} : ab_Run ab_mt 172 52 ls st w = ab_Run ab_mt 172 61 ls st w := E_goto rfl
theorem e_172_55 {ls : ab_L} {st : List Value} {w : ab_W} (h : ab_isR (ls 0) = true) : ab_Run ab_mt 172 55 ls st w = ab_Run ab_mt 172 56 ls (ab_gv (ls 0) :: st) w := E_loadr (n := 1) rfl h
theorem e_172_56 {ls : ab_L} {st : List Value} {w : ab_W} (h : ab_isI (ls 1) = true) : ab_Run ab_mt 172 56 ls st w = ab_Run ab_mt 172 57 ls (ab_gv (ls 1) :: st) w := E_loadi (n := 1) rfl h
theorem e_172_57 {ls : ab_L} {st : List Value} {w : ab_W} (h : ab_isI (ls 2) = true) : ab_Run ab_mt 172 57 ls st w = ab_Run ab_mt 172 58 ls (ab_gv (ls 2) :: st) w := E_loadi (n := 1) rfl h
theorem e_172_58 {ls : ab_L} {st : List Value} {w : ab_W} {v0 v1 v2 : Value} (h1 : ab_recv ab_mt 123 [v0, v1, v2] w.2 = true) (h8 : ab_w8 st = true) : ab_Run ab_mt 172 58 ls (v2 :: v1 :: v0 :: st) w = ab_aft 123 172 58 ls st (ab_Cl 123 [v0, v1, v2] w) := E_call3 rfl h1 h8
theorem e_172_61 {ls : ab_L} {w : ab_W} {x : Int64} : ab_Run ab_mt 172 61 ls [.long x] w = some (.inl (some (.long x)), w) := E_retl rfl
theorem rv_172 {σ : ab_S} {t : Nat} {x0 : Int32} {x1 : Int32} : ab_recv ab_mt 172 [.ref t, .int x0, .int x1] σ = ab_isO 7 (σ t) := rfl
theorem x_172_1 {ls : ab_L} {rest : List Value} {E : Nat} {w : ab_W} : ab_aft 122 172 1 ls rest (some (.inr E, w)) = some (.inr E, w) := ab_aft_x rfl rfl (by unfold ab_hand; rfl)
theorem e_173_0 {ls : ab_L} {st : List Value} {w : ab_W} (h : ab_isR (ls 0) = true) : ab_Run ab_mt 173 0 ls st w = ab_Run ab_mt 173 1 ls (ab_gv (ls 0) :: st) w := E_loadr (n := 1) rfl h
theorem e_173_1 {ls : ab_L} {st : List Value} {w : ab_W} (h : ab_isI (ls 1) = true) : ab_Run ab_mt 173 1 ls st w = ab_Run ab_mt 173 2 ls (ab_gv (ls 1) :: st) w := E_loadi (n := 1) rfl h
theorem e_173_2 {ls : ab_L} {st : List Value} {w : ab_W} {x : Int32} : ab_Run ab_mt 173 2 ls (.int x :: st) w = ab_Run ab_mt 173 3 ls (.long x.toInt64 :: st) w := E_i2l rfl
theorem e_173_3 {ls : ab_L} {st : List Value} {w : ab_W} : ab_Run ab_mt 173 3 ls st w = ab_Run ab_mt 173 4 ls (.long (lN 0) :: st) w := E_push (n := 1) rfl
theorem e_173_4 {ls : ab_L} {st : List Value} {w : ab_W} (h : ab_isR (ls 0) = true) : ab_Run ab_mt 173 4 ls st w = ab_Run ab_mt 173 5 ls (ab_gv (ls 0) :: st) w := E_loadr (n := 1) rfl h
theorem e_173_5 {ls : ab_L} {st : List Value} {w : ab_W} {a : Nat} (h : ab_isF 7 1 (w.2 a) = true) : ab_Run ab_mt 173 5 ls (.ref a :: st) w = ab_Run ab_mt 173 8 ls (ab_fv 1 (w.2 a) :: st) w := E_get rfl h
theorem e_173_8 {ls : ab_L} {st : List Value} {w : ab_W} : ab_Run ab_mt 173 8 ls st w = ab_Run ab_mt 173 11 ls (.int (nI 191) :: st) w := E_push (n := 3) rfl
theorem e_173_11 {ls : ab_L} {st : List Value} {w : ab_W} {a : Nat} {i : Int32} (h : ab_inI i (w.2 a) = true) : ab_Run ab_mt 173 11 ls (.int i :: .ref a :: st) w = ab_Run ab_mt 173 12 ls (.int (ab_aI i.toNatClampNeg (w.2 a)) :: st) w := E_iald rfl h
theorem e_173_12 {ls : ab_L} {st : List Value} {w : ab_W} : ab_Run ab_mt 173 12 ls st w = ab_Run ab_mt 173 13 ls (.int (nI 1) :: st) w := E_push (n := 1) rfl
theorem e_173_13 {ls : ab_L} {st : List Value} {w : ab_W} {x y : Int32} : ab_Run ab_mt 173 13 ls (.int y :: .int x :: st) w = ab_Run ab_mt 173 14 ls (.int (x - y) :: st) w := E_ib (f := fun x y => x - y) rfl
theorem e_173_14 {ls : ab_L} {st : List Value} {w : ab_W} {x : Int32} : ab_Run ab_mt 173 14 ls (.int x :: st) w = ab_Run ab_mt 173 15 ls (.long x.toInt64 :: st) w := E_i2l rfl
theorem e_173_15 {ls : ab_L} {st : List Value} {w : ab_W} {v0 v1 v2 : Value} (h1 : ab_recv ab_mt 107 [v0, v1, v2] w.2 = true) (h8 : ab_w8 st = true) : ab_Run ab_mt 173 15 ls (v2 :: v1 :: v0 :: st) w = ab_aft 107 173 15 ls st (ab_Cl 107 [v0, v1, v2] w) := E_call3 rfl h1 h8
theorem e_173_18 {ls : ab_L} {st : List Value} {w : ab_W} {x : Int32} : ab_Run ab_mt 173 18 ls (.int x :: st) w = if x = 0 then ab_Run ab_mt 173 21 ls st w else ab_Run ab_mt 173 25 ls st w := E_if_ne rfl
theorem e_173_21 {ls : ab_L} {st : List Value} {w : ab_W} : ab_Run ab_mt 173 21 ls st w = ab_Run ab_mt 173 22 ls (.int (nI 1) :: st) w := E_push (n := 1) rfl
theorem e_173_22 {ls : ab_L} {st : List Value} {w : ab_W} : ab_Run ab_mt 173 22 ls st w = ab_Run ab_mt 173 42 ls st w := E_goto rfl
theorem e_173_25 {ls : ab_L} {st : List Value} {w : ab_W} (h : ab_isI (ls 2) = true) : ab_Run ab_mt 173 25 ls st w = ab_Run ab_mt 173 26 ls (ab_gv (ls 2) :: st) w := E_loadi (n := 1) rfl h
theorem e_173_26 {ls : ab_L} {st : List Value} {w : ab_W} {x : Int32} : ab_Run ab_mt 173 26 ls (.int x :: st) w = ab_Run ab_mt 173 27 ls (.long x.toInt64 :: st) w := E_i2l rfl
theorem e_173_27 {ls : ab_L} {st : List Value} {w : ab_W} : ab_Run ab_mt 173 27 ls st w = ab_Run ab_mt 173 28 ls (.long (lN 0) :: st) w := E_push (n := 1) rfl
theorem e_173_28 {ls : ab_L} {st : List Value} {w : ab_W} : ab_Run ab_mt 173 28 ls st w = ab_Run ab_mt 173 31 ls (.long (lN 2) :: st) w := E_push (n := 3) rfl
theorem e_173_31 {ls : ab_L} {st : List Value} {w : ab_W} {v0 v1 v2 : Value} (h1 : ab_recv ab_mt 107 [v0, v1, v2] w.2 = true) (h8 : ab_w8 st = true) : ab_Run ab_mt 173 31 ls (v2 :: v1 :: v0 :: st) w = ab_aft 107 173 31 ls st (ab_Cl 107 [v0, v1, v2] w) := E_call3 rfl h1 h8
theorem e_173_34 {ls : ab_L} {st : List Value} {w : ab_W} {x : Int32} : ab_Run ab_mt 173 34 ls (.int x :: st) w = if x = 0 then ab_Run ab_mt 173 41 ls st w else ab_Run ab_mt 173 37 ls st w := E_if_eq rfl
theorem e_173_37 {ls : ab_L} {st : List Value} {w : ab_W} : ab_Run ab_mt 173 37 ls st w = ab_Run ab_mt 173 38 ls (.int (nI 0) :: st) w := E_push (n := 1) rfl
theorem e_173_38 {ls : ab_L} {st : List Value} {w : ab_W} : ab_Run ab_mt 173 38 ls st w = ab_Run ab_mt 173 42 ls st w := E_goto rfl
theorem e_173_41 {ls : ab_L} {st : List Value} {w : ab_W} : ab_Run ab_mt 173 41 ls st w = ab_Run ab_mt 173 42 ls (.int (nI 2) :: st) w := E_push (n := 1) rfl
theorem e_173_42 {ls : ab_L} {st : List Value} {w : ab_W} {a : Nat} {x : Int32} (h : ab_isF 7 0 (w.2 a) = true) : ab_Run ab_mt 173 42 ls (.int x :: .ref a :: st) w = ab_Run ab_mt 173 45 ls st (w.1, ab_up w.2 a (ab_sf 0 (.int x) (w.2 a))) := E_put rfl h rfl
theorem e_173_45 {ls : ab_L} {st : List Value} {w : ab_W} (h : ab_isR (ls 0) = true) : ab_Run ab_mt 173 45 ls st w = ab_Run ab_mt 173 46 ls (ab_gv (ls 0) :: st) w := E_loadr (n := 1) rfl h
theorem e_173_46 {ls : ab_L} {st : List Value} {w : ab_W} {a : Nat} (h : ab_isF 7 0 (w.2 a) = true) : ab_Run ab_mt 173 46 ls (.ref a :: st) w = ab_Run ab_mt 173 49 ls (ab_fv 0 (w.2 a) :: st) w := E_get rfl h
theorem e_173_49 {ls : ab_L} {st : List Value} {w : ab_W} {x : Int32} : ab_Run ab_mt 173 49 ls (.int x :: st) w = if x ≤ 0 then ab_Run ab_mt 173 56 ls st w else ab_Run ab_mt 173 52 ls st w := E_if_le rfl
theorem e_173_52 {ls : ab_L} {st : List Value} {w : ab_W} : ab_Run ab_mt 173 52 ls st w = ab_Run ab_mt 173 53 ls (.int (nI 0) :: st) w := E_push (n := 1) rfl
theorem e_173_53 {ls : ab_L} {st : List Value} {w : ab_W} : ab_Run ab_mt 173 53 ls st w = ab_Run ab_mt 173 62 ls st w := E_goto rfl
theorem e_173_56 {ls : ab_L} {st : List Value} {w : ab_W} (h : ab_isR (ls 0) = true) : ab_Run ab_mt 173 56 ls st w = ab_Run ab_mt 173 57 ls (ab_gv (ls 0) :: st) w := E_loadr (n := 1) rfl h
theorem e_173_57 {ls : ab_L} {st : List Value} {w : ab_W} (h : ab_isI (ls 1) = true) : ab_Run ab_mt 173 57 ls st w = ab_Run ab_mt 173 58 ls (ab_gv (ls 1) :: st) w := E_loadi (n := 1) rfl h
theorem e_173_58 {ls : ab_L} {st : List Value} {w : ab_W} (h : ab_isI (ls 2) = true) : ab_Run ab_mt 173 58 ls st w = ab_Run ab_mt 173 59 ls (ab_gv (ls 2) :: st) w := E_loadi (n := 1) rfl h
theorem e_173_59 {ls : ab_L} {st : List Value} {w : ab_W} {v0 v1 v2 : Value} (h1 : ab_recv ab_mt 110 [v0, v1, v2] w.2 = true) (h8 : ab_w8 st = true) : ab_Run ab_mt 173 59 ls (v2 :: v1 :: v0 :: st) w = ab_aft 110 173 59 ls st (ab_Cl 110 [v0, v1, v2] w) := E_call3 rfl h1 h8
theorem e_173_62 {ls : ab_L} {w : ab_W} {x : Int32} : ab_Run ab_mt 173 62 ls [.int x] w = some (.inl (some (.int x)), w) := E_reti rfl
theorem rv_173 {σ : ab_S} {t : Nat} {x0 : Int32} {x1 : Int32} : ab_recv ab_mt 173 [.ref t, .int x0, .int x1] σ = ab_isO 7 (σ t) := rfl
theorem e_174_0 {ls : ab_L} {st : List Value} {w : ab_W} : ab_Run ab_mt 174 0 ls st w = ab_Run ab_mt 174 1 ls (.int (nI 0) :: st) w := E_push (n := 1) rfl
theorem e_174_1 {ls : ab_L} {st : List Value} {w : ab_W} {x : Int32} : ab_Run ab_mt 174 1 ls (.int x :: st) w = ab_Run ab_mt 174 2 (ab_l1 ls 2 (.int x)) st w := E_stori (n := 1) rfl
theorem e_174_2 {ls : ab_L} {st : List Value} {w : ab_W} (h : ab_isR (ls 0) = true) : ab_Run ab_mt 174 2 ls st w = ab_Run ab_mt 174 3 ls (ab_gv (ls 0) :: st) w := E_loadr (n := 1) rfl h
theorem e_174_3 {ls : ab_L} {st : List Value} {w : ab_W} (h : ab_isI (ls 1) = true) : ab_Run ab_mt 174 3 ls st w = ab_Run ab_mt 174 4 ls (ab_gv (ls 1) :: st) w := E_loadi (n := 1) rfl h
theorem e_174_4 {ls : ab_L} {st : List Value} {w : ab_W} {v0 v1 : Value} (h1 : ab_recv ab_mt 124 [v0, v1] w.2 = true) (h8 : ab_w8 st = true) : ab_Run ab_mt 174 4 ls (v1 :: v0 :: st) w = ab_aft 124 174 4 ls st (ab_Cl 124 [v0, v1] w) := E_call2 rfl h1 h8
theorem e_174_7 {ls : ab_L} {st : List Value} {w : ab_W} {x : Int64} : ab_Run ab_mt 174 7 ls (.long x :: st) w = ab_Run ab_mt 174 8 (ab_l2 ls 3 (.long x)) st w := E_storl (n := 1) rfl
theorem e_174_8 {ls : ab_L} {st : List Value} {w : ab_W} : ab_Run ab_mt 174 8 ls st w = ab_Run ab_mt 174 9 ls (.int (nI 0) :: st) w := E_push (n := 1) rfl
theorem e_174_9 {ls : ab_L} {st : List Value} {w : ab_W} {x : Int32} : ab_Run ab_mt 174 9 ls (.int x :: st) w = ab_Run ab_mt 174 11 (ab_l1 ls 5 (.int x)) st w := E_stori (n := 2) rfl
theorem e_174_11 {ls : ab_L} {st : List Value} {w : ab_W} (h : ab_isI (ls 5) = true) : ab_Run ab_mt 174 11 ls st w = ab_Run ab_mt 174 13 ls (ab_gv (ls 5) :: st) w := E_loadi (n := 2) rfl h
theorem e_174_13 {ls : ab_L} {st : List Value} {w : ab_W} (h : ab_isR (ls 0) = true) : ab_Run ab_mt 174 13 ls st w = ab_Run ab_mt 174 14 ls (ab_gv (ls 0) :: st) w := E_loadr (n := 1) rfl h
theorem e_174_14 {ls : ab_L} {st : List Value} {w : ab_W} {a : Nat} (h : ab_isF 7 1 (w.2 a) = true) : ab_Run ab_mt 174 14 ls (.ref a :: st) w = ab_Run ab_mt 174 17 ls (ab_fv 1 (w.2 a) :: st) w := E_get rfl h
theorem e_174_17 {ls : ab_L} {st : List Value} {w : ab_W} : ab_Run ab_mt 174 17 ls st w = ab_Run ab_mt 174 20 ls (.int (nI 192) :: st) w := E_push (n := 3) rfl
theorem e_174_20 {ls : ab_L} {st : List Value} {w : ab_W} {a : Nat} {i : Int32} (h : ab_inI i (w.2 a) = true) : ab_Run ab_mt 174 20 ls (.int i :: .ref a :: st) w = ab_Run ab_mt 174 21 ls (.int (ab_aI i.toNatClampNeg (w.2 a)) :: st) w := E_iald rfl h
theorem e_174_21 {ls : ab_L} {st : List Value} {w : ab_W} {x y : Int32} : ab_Run ab_mt 174 21 ls (.int y :: .int x :: st) w = if y ≤ x then ab_Run ab_mt 174 66 ls st w else ab_Run ab_mt 174 24 ls st w := E_ic_ge rfl
theorem e_174_24 {ls : ab_L} {st : List Value} {w : ab_W} (h : ab_isR (ls 0) = true) : ab_Run ab_mt 174 24 ls st w = ab_Run ab_mt 174 25 ls (ab_gv (ls 0) :: st) w := E_loadr (n := 1) rfl h
theorem e_174_25 {ls : ab_L} {st : List Value} {w : ab_W} (h : ab_isI (ls 5) = true) : ab_Run ab_mt 174 25 ls st w = ab_Run ab_mt 174 27 ls (ab_gv (ls 5) :: st) w := E_loadi (n := 2) rfl h
theorem e_174_27 {ls : ab_L} {st : List Value} {w : ab_W} {v0 v1 : Value} (h1 : ab_recv ab_mt 124 [v0, v1] w.2 = true) (h8 : ab_w8 st = true) : ab_Run ab_mt 174 27 ls (v1 :: v0 :: st) w = ab_aft 124 174 27 ls st (ab_Cl 124 [v0, v1] w) := E_call2 rfl h1 h8
theorem e_174_30 {ls : ab_L} {st : List Value} {w : ab_W} {x : Int64} : ab_Run ab_mt 174 30 ls (.long x :: st) w = ab_Run ab_mt 174 32 (ab_l2 ls 6 (.long x)) st w := E_storl (n := 2) rfl
theorem e_174_32 {ls : ab_L} {st : List Value} {w : ab_W} (h : ab_isI (ls 2) = true) : ab_Run ab_mt 174 32 ls st w = ab_Run ab_mt 174 33 ls (ab_gv (ls 2) :: st) w := E_loadi (n := 1) rfl h
theorem e_174_33 {ls : ab_L} {st : List Value} {w : ab_W} (h : ab_isL (ls 6) = true) (h2 : (ls 7).isNone = true) : ab_Run ab_mt 174 33 ls st w = ab_Run ab_mt 174 35 ls (ab_gv (ls 6) :: st) w := E_loadl (n := 2) rfl h h2
theorem e_174_35 {ls : ab_L} {st : List Value} {w : ab_W} (h : ab_isL (ls 3) = true) (h2 : (ls 4).isNone = true) : ab_Run ab_mt 174 35 ls st w = ab_Run ab_mt 174 36 ls (ab_gv (ls 3) :: st) w := E_loadl (n := 1) rfl h h2
theorem e_174_36 {ls : ab_L} {st : List Value} {w : ab_W} {x y : Int64} : ab_Run ab_mt 174 36 ls (.long y :: .long x :: st) w = ab_Run ab_mt 174 37 ls (.int (lg_cmp x y) :: st) w := E_lcmp rfl
theorem e_174_37 {ls : ab_L} {st : List Value} {w : ab_W} {x : Int32} : ab_Run ab_mt 174 37 ls (.int x :: st) w = if x < 0 then ab_Run ab_mt 174 53 ls st w else ab_Run ab_mt 174 40 ls st w := E_if_lt rfl
theorem e_174_40 {ls : ab_L} {st : List Value} {w : ab_W} (h : ab_isL (ls 6) = true) (h2 : (ls 7).isNone = true) : ab_Run ab_mt 174 40 ls st w = ab_Run ab_mt 174 42 ls (ab_gv (ls 6) :: st) w := E_loadl (n := 2) rfl h h2
theorem e_174_42 {ls : ab_L} {st : List Value} {w : ab_W} (h : ab_isL (ls 3) = true) (h2 : (ls 4).isNone = true) : ab_Run ab_mt 174 42 ls st w = ab_Run ab_mt 174 43 ls (ab_gv (ls 3) :: st) w := E_loadl (n := 1) rfl h h2
theorem e_174_43 {ls : ab_L} {st : List Value} {w : ab_W} {x y : Int64} : ab_Run ab_mt 174 43 ls (.long y :: .long x :: st) w = ab_Run ab_mt 174 44 ls (.int (lg_cmp x y) :: st) w := E_lcmp rfl
theorem e_174_44 {ls : ab_L} {st : List Value} {w : ab_W} {x : Int32} : ab_Run ab_mt 174 44 ls (.int x :: st) w = if x = 0 then ab_Run ab_mt 174 47 ls st w else ab_Run ab_mt 174 57 ls st w := E_if_ne rfl
theorem e_174_47 {ls : ab_L} {st : List Value} {w : ab_W} (h : ab_isI (ls 5) = true) : ab_Run ab_mt 174 47 ls st w = ab_Run ab_mt 174 49 ls (ab_gv (ls 5) :: st) w := E_loadi (n := 2) rfl h
theorem e_174_49 {ls : ab_L} {st : List Value} {w : ab_W} (h : ab_isI (ls 1) = true) : ab_Run ab_mt 174 49 ls st w = ab_Run ab_mt 174 50 ls (ab_gv (ls 1) :: st) w := E_loadi (n := 1) rfl h
theorem e_174_50 {ls : ab_L} {st : List Value} {w : ab_W} {x y : Int32} : ab_Run ab_mt 174 50 ls (.int y :: .int x :: st) w = if y ≤ x then ab_Run ab_mt 174 57 ls st w else ab_Run ab_mt 174 53 ls st w := E_ic_ge rfl
theorem e_174_53 {ls : ab_L} {st : List Value} {w : ab_W} : ab_Run ab_mt 174 53 ls st w = ab_Run ab_mt 174 54 ls (.int (nI 1) :: st) w := E_push (n := 1) rfl
theorem e_174_54 {ls : ab_L} {st : List Value} {w : ab_W} : ab_Run ab_mt 174 54 ls st w = ab_Run ab_mt 174 58 ls st w := E_goto rfl
theorem e_174_57 {ls : ab_L} {st : List Value} {w : ab_W} : ab_Run ab_mt 174 57 ls st w = ab_Run ab_mt 174 58 ls (.int (nI 0) :: st) w := E_push (n := 1) rfl
theorem e_174_58 {ls : ab_L} {st : List Value} {w : ab_W} {x y : Int32} : ab_Run ab_mt 174 58 ls (.int y :: .int x :: st) w = ab_Run ab_mt 174 59 ls (.int (x + y) :: st) w := E_ib (f := fun x y => x + y) rfl
theorem e_174_59 {ls : ab_L} {st : List Value} {w : ab_W} {x : Int32} : ab_Run ab_mt 174 59 ls (.int x :: st) w = ab_Run ab_mt 174 60 (ab_l1 ls 2 (.int x)) st w := E_stori (n := 1) rfl
theorem e_174_60 {ls : ab_L} {st : List Value} {w : ab_W} (h : ab_isI (ls 5) = true) : ab_Run ab_mt 174 60 ls st w = ab_Run ab_mt 174 63 (ab_l1 ls 5 (.int (ab_gi (ls 5) + (nI 1)))) st w := E_iinc rfl h
theorem e_174_63 {ls : ab_L} {st : List Value} {w : ab_W} : ab_Run ab_mt 174 63 ls st w = ab_Run ab_mt 174 11 ls st w := E_goto rfl
theorem e_174_66 {ls : ab_L} {st : List Value} {w : ab_W} (h : ab_isI (ls 2) = true) : ab_Run ab_mt 174 66 ls st w = ab_Run ab_mt 174 67 ls (ab_gv (ls 2) :: st) w := E_loadi (n := 1) rfl h
theorem e_174_67 {ls : ab_L} {w : ab_W} {x : Int32} : ab_Run ab_mt 174 67 ls [.int x] w = some (.inl (some (.int x)), w) := E_reti rfl
theorem rv_174 {σ : ab_S} {t : Nat} {x0 : Int32} : ab_recv ab_mt 174 [.ref t, .int x0] σ = ab_isO 7 (σ t) := rfl
theorem e_175_0 {ls : ab_L} {st : List Value} {w : ab_W} (h : ab_isI (ls 2) = true) : ab_Run ab_mt 175 0 ls st w = ab_Run ab_mt 175 1 ls (ab_gv (ls 2) :: st) w := E_loadi (n := 1) rfl h
theorem e_175_1 {ls : ab_L} {st : List Value} {w : ab_W} : ab_Run ab_mt 175 1 ls st w = ab_Run ab_mt 175 2 ls (.int (nI 3) :: st) w := E_push (n := 1) rfl
theorem e_175_2 {ls : ab_L} {st : List Value} {w : ab_W} {x y : Int32} : ab_Run ab_mt 175 2 ls (.int y :: .int x :: st) w = if y ≤ x then ab_Run ab_mt 175 15 ls st w else ab_Run ab_mt 175 5 ls st w := E_ic_ge rfl
theorem e_175_5 {ls : ab_L} {st : List Value} {w : ab_W} (h : ab_isR (ls 0) = true) : ab_Run ab_mt 175 5 ls st w = ab_Run ab_mt 175 6 ls (ab_gv (ls 0) :: st) w := E_loadr (n := 1) rfl h
theorem e_175_6 {ls : ab_L} {st : List Value} {w : ab_W} (h : ab_isI (ls 1) = true) : ab_Run ab_mt 175 6 ls st w = ab_Run ab_mt 175 7 ls (ab_gv (ls 1) :: st) w := E_loadi (n := 1) rfl h
theorem e_175_7 {ls : ab_L} {st : List Value} {w : ab_W} (h : ab_isI (ls 2) = true) : ab_Run ab_mt 175 7 ls st w = ab_Run ab_mt 175 8 ls (ab_gv (ls 2) :: st) w := E_loadi (n := 1) rfl h
theorem e_175_8 {ls : ab_L} {st : List Value} {w : ab_W} {v0 v1 v2 : Value} (h1 : ab_recv ab_mt 111 [v0, v1, v2] w.2 = true) (h8 : ab_w8 st = true) : ab_Run ab_mt 175 8 ls (v2 :: v1 :: v0 :: st) w = ab_aft 111 175 8 ls st (ab_Cl 111 [v0, v1, v2] w) := E_call3 rfl h1 h8
theorem e_175_11 {ls : ab_L} {st : List Value} {w : ab_W} {x : Int32} : ab_Run ab_mt 175 11 ls (.int x :: st) w = ab_Run ab_mt 175 12 ls (.long x.toInt64 :: st) w := E_i2l rfl
theorem e_175_12 {ls : ab_L} {st : List Value} {w : ab_W} : ab_Run ab_mt 175 12 ls st w = ab_Run ab_mt 175 34 ls st w := E_goto rfl
theorem e_175_15 {ls : ab_L} {st : List Value} {w : ab_W} (h : ab_isI (ls 2) = true) : ab_Run ab_mt 175 15 ls st w = ab_Run ab_mt 175 16 ls (ab_gv (ls 2) :: st) w := E_loadi (n := 1) rfl h
theorem e_175_16 {ls : ab_L} {st : List Value} {w : ab_W} : ab_Run ab_mt 175 16 ls st w = ab_Run ab_mt 175 17 ls (.int (nI 3) :: st) w := E_push (n := 1) rfl
theorem e_175_17 {ls : ab_L} {st : List Value} {w : ab_W} {x y : Int32} : ab_Run ab_mt 175 17 ls (.int y :: .int x :: st) w = if x = y then ab_Run ab_mt 175 20 ls st w else ab_Run ab_mt 175 28 ls st w := E_ic_ne rfl
theorem e_175_20 {ls : ab_L} {st : List Value} {w : ab_W} (h : ab_isR (ls 0) = true) : ab_Run ab_mt 175 20 ls st w = ab_Run ab_mt 175 21 ls (ab_gv (ls 0) :: st) w := E_loadr (n := 1) rfl h
theorem e_175_21 {ls : ab_L} {st : List Value} {w : ab_W} (h : ab_isI (ls 1) = true) : ab_Run ab_mt 175 21 ls st w = ab_Run ab_mt 175 22 ls (ab_gv (ls 1) :: st) w := E_loadi (n := 1) rfl h
theorem e_175_22 {ls : ab_L} {st : List Value} {w : ab_W} {v0 v1 : Value} (h1 : ab_recv ab_mt 124 [v0, v1] w.2 = true) (h8 : ab_w8 st = true) : ab_Run ab_mt 175 22 ls (v1 :: v0 :: st) w = ab_aft 124 175 22 ls st (ab_Cl 124 [v0, v1] w) := E_call2 rfl h1 h8
theorem e_175_25 {ls : ab_L} {st : List Value} {w : ab_W} : ab_Run ab_mt 175 25 ls st w = ab_Run ab_mt 175 34 ls st w := E_goto rfl
theorem e_175_28 {ls : ab_L} {st : List Value} {w : ab_W} (h : ab_isR (ls 0) = true) : ab_Run ab_mt 175 28 ls st w = ab_Run ab_mt 175 29 ls (ab_gv (ls 0) :: st) w := E_loadr (n := 1) rfl h
theorem e_175_29 {ls : ab_L} {st : List Value} {w : ab_W} (h : ab_isI (ls 1) = true) : ab_Run ab_mt 175 29 ls st w = ab_Run ab_mt 175 30 ls (ab_gv (ls 1) :: st) w := E_loadi (n := 1) rfl h
theorem e_175_30 {ls : ab_L} {st : List Value} {w : ab_W} {v0 v1 : Value} (h1 : ab_recv ab_mt 174 [v0, v1] w.2 = true) (h8 : ab_w8 st = true) : ab_Run ab_mt 175 30 ls (v1 :: v0 :: st) w = ab_aft 174 175 30 ls st (ab_Cl 174 [v0, v1] w) := E_call2 rfl h1 h8
theorem e_175_33 {ls : ab_L} {st : List Value} {w : ab_W} {x : Int32} : ab_Run ab_mt 175 33 ls (.int x :: st) w = ab_Run ab_mt 175 34 ls (.long x.toInt64 :: st) w := E_i2l rfl
theorem e_175_34 {ls : ab_L} {w : ab_W} {x : Int64} : ab_Run ab_mt 175 34 ls [.long x] w = some (.inl (some (.long x)), w) := E_retl rfl
theorem rv_175 {σ : ab_S} {t : Nat} {x0 : Int32} {x1 : Int32} : ab_recv ab_mt 175 [.ref t, .int x0, .int x1] σ = ab_isO 7 (σ t) := rfl
theorem e_176_0 {ls : ab_L} {st : List Value} {w : ab_W} (h : ab_isR (ls 0) = true) : ab_Run ab_mt 176 0 ls st w = ab_Run ab_mt 176 1 ls (ab_gv (ls 0) :: st) w := E_loadr (n := 1) rfl h
theorem e_176_1 {ls : ab_L} {st : List Value} {w : ab_W} (h : ab_isR (ls 0) = true) : ab_Run ab_mt 176 1 ls st w = ab_Run ab_mt 176 2 ls (ab_gv (ls 0) :: st) w := E_loadr (n := 1) rfl h
theorem e_176_2 {ls : ab_L} {st : List Value} {w : ab_W} (h : ab_isI (ls 1) = true) : ab_Run ab_mt 176 2 ls st w = ab_Run ab_mt 176 3 ls (ab_gv (ls 1) :: st) w := E_loadi (n := 1) rfl h
theorem e_176_3 {ls : ab_L} {st : List Value} {w : ab_W} {v0 v1 : Value} (h1 : ab_recv ab_mt 139 [v0, v1] w.2 = true) (h8 : ab_w8 st = true) : ab_Run ab_mt 176 3 ls (v1 :: v0 :: st) w = ab_aft 139 176 3 ls st (ab_Cl 139 [v0, v1] w) := E_call2 rfl h1 h8
theorem e_176_6 {ls : ab_L} {st : List Value} {w : ab_W} {x : Int32} : ab_Run ab_mt 176 6 ls (.int x :: st) w = if x = 0 then ab_Run ab_mt 176 9 ls st w else ab_Run ab_mt 176 13 ls st w := E_if_ne rfl
theorem e_176_9 {ls : ab_L} {st : List Value} {w : ab_W} : ab_Run ab_mt 176 9 ls st w = ab_Run ab_mt 176 10 ls (.int (nI 1) :: st) w := E_push (n := 1) rfl
theorem e_176_10 {ls : ab_L} {st : List Value} {w : ab_W} : ab_Run ab_mt 176 10 ls st w = ab_Run ab_mt 176 30 ls st w := E_goto rfl
theorem e_176_13 {ls : ab_L} {st : List Value} {w : ab_W} (h : ab_isI (ls 2) = true) : ab_Run ab_mt 176 13 ls st w = ab_Run ab_mt 176 14 ls (ab_gv (ls 2) :: st) w := E_loadi (n := 1) rfl h
theorem e_176_14 {ls : ab_L} {st : List Value} {w : ab_W} {x : Int32} : ab_Run ab_mt 176 14 ls (.int x :: st) w = ab_Run ab_mt 176 15 ls (.long x.toInt64 :: st) w := E_i2l rfl
theorem e_176_15 {ls : ab_L} {st : List Value} {w : ab_W} : ab_Run ab_mt 176 15 ls st w = ab_Run ab_mt 176 16 ls (.long (lN 0) :: st) w := E_push (n := 1) rfl
theorem e_176_16 {ls : ab_L} {st : List Value} {w : ab_W} : ab_Run ab_mt 176 16 ls st w = ab_Run ab_mt 176 19 ls (.long (lN 4) :: st) w := E_push (n := 3) rfl
theorem e_176_19 {ls : ab_L} {st : List Value} {w : ab_W} {v0 v1 v2 : Value} (h1 : ab_recv ab_mt 107 [v0, v1, v2] w.2 = true) (h8 : ab_w8 st = true) : ab_Run ab_mt 176 19 ls (v2 :: v1 :: v0 :: st) w = ab_aft 107 176 19 ls st (ab_Cl 107 [v0, v1, v2] w) := E_call3 rfl h1 h8
theorem e_176_22 {ls : ab_L} {st : List Value} {w : ab_W} {x : Int32} : ab_Run ab_mt 176 22 ls (.int x :: st) w = if x = 0 then ab_Run ab_mt 176 29 ls st w else ab_Run ab_mt 176 25 ls st w := E_if_eq rfl
theorem e_176_25 {ls : ab_L} {st : List Value} {w : ab_W} : ab_Run ab_mt 176 25 ls st w = ab_Run ab_mt 176 26 ls (.int (nI 0) :: st) w := E_push (n := 1) rfl
theorem e_176_26 {ls : ab_L} {st : List Value} {w : ab_W} : ab_Run ab_mt 176 26 ls st w = ab_Run ab_mt 176 30 ls st w := E_goto rfl
theorem e_176_29 {ls : ab_L} {st : List Value} {w : ab_W} : ab_Run ab_mt 176 29 ls st w = ab_Run ab_mt 176 30 ls (.int (nI 2) :: st) w := E_push (n := 1) rfl
theorem e_176_30 {ls : ab_L} {st : List Value} {w : ab_W} {a : Nat} {x : Int32} (h : ab_isF 7 0 (w.2 a) = true) : ab_Run ab_mt 176 30 ls (.int x :: .ref a :: st) w = ab_Run ab_mt 176 33 ls st (w.1, ab_up w.2 a (ab_sf 0 (.int x) (w.2 a))) := E_put rfl h rfl
theorem e_176_33 {ls : ab_L} {st : List Value} {w : ab_W} (h : ab_isR (ls 0) = true) : ab_Run ab_mt 176 33 ls st w = ab_Run ab_mt 176 34 ls (ab_gv (ls 0) :: st) w := E_loadr (n := 1) rfl h
theorem e_176_34 {ls : ab_L} {st : List Value} {w : ab_W} {a : Nat} (h : ab_isF 7 0 (w.2 a) = true) : ab_Run ab_mt 176 34 ls (.ref a :: st) w = ab_Run ab_mt 176 37 ls (ab_fv 0 (w.2 a) :: st) w := E_get rfl h
theorem e_176_37 {ls : ab_L} {st : List Value} {w : ab_W} {x : Int32} : ab_Run ab_mt 176 37 ls (.int x :: st) w = if x ≤ 0 then ab_Run ab_mt 176 42 ls st w else ab_Run ab_mt 176 40 ls st w := E_if_le rfl
theorem e_176_40 {ls : ab_L} {st : List Value} {w : ab_W} : ab_Run ab_mt 176 40 ls st w = ab_Run ab_mt 176 41 ls (.long (lN 0) :: st) w := E_push (n := 1) rfl
theorem e_176_41 {ls : ab_L} {w : ab_W} {x : Int64} : ab_Run ab_mt 176 41 ls [.long x] w = some (.inl (some (.long x)), w) := E_retl rfl
theorem e_176_42 {ls : ab_L} {st : List Value} {w : ab_W} (h : ab_isR (ls 0) = true) : ab_Run ab_mt 176 42 ls st w = ab_Run ab_mt 176 43 ls (ab_gv (ls 0) :: st) w := E_loadr (n := 1) rfl h
theorem e_176_43 {ls : ab_L} {st : List Value} {w : ab_W} {v0 : Value} (h1 : ab_recv ab_mt 122 [v0] w.2 = true) (h8 : ab_w8 st = true) : ab_Run ab_mt 176 43 ls (v0 :: st) w = ab_aft 122 176 43 ls st (ab_Cl 122 [v0] w) := E_call1 rfl h1 h8
theorem e_176_46 {ls : ab_L} {st : List Value} {w : ab_W} (h : ab_isR (ls 0) = true) : ab_Run ab_mt 176 46 ls st w = ab_Run ab_mt 176 47 ls (ab_gv (ls 0) :: st) w := E_loadr (n := 1) rfl h
theorem e_176_47 {ls : ab_L} {st : List Value} {w : ab_W} (h : ab_isI (ls 1) = true) : ab_Run ab_mt 176 47 ls st w = ab_Run ab_mt 176 48 ls (ab_gv (ls 1) :: st) w := E_loadi (n := 1) rfl h
theorem e_176_48 {ls : ab_L} {st : List Value} {w : ab_W} (h : ab_isI (ls 2) = true) : ab_Run ab_mt 176 48 ls st w = ab_Run ab_mt 176 49 ls (ab_gv (ls 2) :: st) w := E_loadi (n := 1) rfl h
theorem e_176_49 {ls : ab_L} {st : List Value} {w : ab_W} {v0 v1 v2 : Value} (h1 : ab_recv ab_mt 175 [v0, v1, v2] w.2 = true) (h8 : ab_w8 st = true) : ab_Run ab_mt 176 49 ls (v2 :: v1 :: v0 :: st) w = ab_aft 175 176 49 ls st (ab_Cl 175 [v0, v1, v2] w) := E_call3 rfl h1 h8
theorem e_176_52 {ls : ab_L} {w : ab_W} {x : Int64} : ab_Run ab_mt 176 52 ls [.long x] w = some (.inl (some (.long x)), w) := E_retl rfl
theorem rv_176 {σ : ab_S} {t : Nat} {x0 : Int32} {x1 : Int32} : ab_recv ab_mt 176 [.ref t, .int x0, .int x1] σ = ab_isO 7 (σ t) := rfl
theorem x_176_43 {ls : ab_L} {rest : List Value} {E : Nat} {w : ab_W} : ab_aft 122 176 43 ls rest (some (.inr E, w)) = some (.inr E, w) := ab_aft_x rfl rfl (by unfold ab_hand; rfl)
theorem e_177_0 {ls : ab_L} {st : List Value} {w : ab_W} : ab_Run ab_mt 177 0 ls st w = ab_Run ab_mt 177 1 ls (.int (-1) :: st) w := E_push (n := 1) rfl
theorem e_177_1 {ls : ab_L} {st : List Value} {w : ab_W} {x : Int32} : ab_Run ab_mt 177 1 ls (.int x :: st) w = ab_Run ab_mt 177 2 (ab_l1 ls 3 (.int x)) st w := E_stori (n := 1) rfl
theorem e_177_2 {ls : ab_L} {st : List Value} {w : ab_W} (h : ab_isR (ls 0) = true) : ab_Run ab_mt 177 2 ls st w = ab_Run ab_mt 177 3 ls (ab_gv (ls 0) :: st) w := E_loadr (n := 1) rfl h
theorem e_177_3 {ls : ab_L} {st : List Value} {w : ab_W} {v0 : Value} (h1 : ab_recv ab_mt 114 [v0] w.2 = true) (h8 : ab_w8 st = true) : ab_Run ab_mt 177 3 ls (v0 :: st) w = ab_aft 114 177 3 ls st (ab_Cl 114 [v0] w) := E_call1 rfl h1 h8
theorem e_177_6 {ls : ab_L} {st : List Value} {w : ab_W} {x : Int32} : ab_Run ab_mt 177 6 ls (.int x :: st) w = ab_Run ab_mt 177 8 (ab_l1 ls 4 (.int x)) st w := E_stori (n := 2) rfl
theorem e_177_8 {ls : ab_L} {st : List Value} {w : ab_W} : ab_Run ab_mt 177 8 ls st w = ab_Run ab_mt 177 9 ls (.int (nI 0) :: st) w := E_push (n := 1) rfl
theorem e_177_9 {ls : ab_L} {st : List Value} {w : ab_W} {x : Int32} : ab_Run ab_mt 177 9 ls (.int x :: st) w = ab_Run ab_mt 177 11 (ab_l1 ls 5 (.int x)) st w := E_stori (n := 2) rfl
theorem e_177_11 {ls : ab_L} {st : List Value} {w : ab_W} (h : ab_isI (ls 5) = true) : ab_Run ab_mt 177 11 ls st w = ab_Run ab_mt 177 13 ls (ab_gv (ls 5) :: st) w := E_loadi (n := 2) rfl h
theorem e_177_13 {ls : ab_L} {st : List Value} {w : ab_W} (h : ab_isI (ls 4) = true) : ab_Run ab_mt 177 13 ls st w = ab_Run ab_mt 177 15 ls (ab_gv (ls 4) :: st) w := E_loadi (n := 2) rfl h
theorem e_177_15 {ls : ab_L} {st : List Value} {w : ab_W} {x y : Int32} : ab_Run ab_mt 177 15 ls (.int y :: .int x :: st) w = if y ≤ x then ab_Run ab_mt 177 43 ls st w else ab_Run ab_mt 177 18 ls st w := E_ic_ge rfl
theorem e_177_18 {ls : ab_L} {st : List Value} {w : ab_W} (h : ab_isR (ls 0) = true) : ab_Run ab_mt 177 18 ls st w = ab_Run ab_mt 177 19 ls (ab_gv (ls 0) :: st) w := E_loadr (n := 1) rfl h
theorem e_177_19 {ls : ab_L} {st : List Value} {w : ab_W} {a : Nat} (h : ab_isF 7 15 (w.2 a) = true) : ab_Run ab_mt 177 19 ls (.ref a :: st) w = ab_Run ab_mt 177 22 ls (ab_fv 15 (w.2 a) :: st) w := E_get rfl h
theorem e_177_22 {ls : ab_L} {st : List Value} {w : ab_W} (h : ab_isI (ls 5) = true) : ab_Run ab_mt 177 22 ls st w = ab_Run ab_mt 177 24 ls (ab_gv (ls 5) :: st) w := E_loadi (n := 2) rfl h
theorem e_177_24 {ls : ab_L} {st : List Value} {w : ab_W} {a : Nat} {i : Int32} (h : ab_inL i (w.2 a) = true) : ab_Run ab_mt 177 24 ls (.int i :: .ref a :: st) w = ab_Run ab_mt 177 25 ls (.long (ab_aL i.toNatClampNeg (w.2 a)) :: st) w := E_lald rfl h
theorem e_177_25 {ls : ab_L} {st : List Value} {w : ab_W} (h : ab_isL (ls 1) = true) (h2 : (ls 2).isNone = true) : ab_Run ab_mt 177 25 ls st w = ab_Run ab_mt 177 26 ls (ab_gv (ls 1) :: st) w := E_loadl (n := 1) rfl h h2
theorem e_177_26 {ls : ab_L} {st : List Value} {w : ab_W} {x y : Int64} : ab_Run ab_mt 177 26 ls (.long y :: .long x :: st) w = ab_Run ab_mt 177 27 ls (.int (lg_cmp x y) :: st) w := E_lcmp rfl
theorem e_177_27 {ls : ab_L} {st : List Value} {w : ab_W} {x : Int32} : ab_Run ab_mt 177 27 ls (.int x :: st) w = if 0 < x then ab_Run ab_mt 177 35 ls st w else ab_Run ab_mt 177 30 ls st w := E_if_gt rfl
theorem e_177_30 {ls : ab_L} {st : List Value} {w : ab_W} (h : ab_isI (ls 5) = true) : ab_Run ab_mt 177 30 ls st w = ab_Run ab_mt 177 32 ls (ab_gv (ls 5) :: st) w := E_loadi (n := 2) rfl h
theorem e_177_32 {ls : ab_L} {st : List Value} {w : ab_W} : ab_Run ab_mt 177 32 ls st w = ab_Run ab_mt 177 36 ls st w := E_goto rfl
theorem e_177_35 {ls : ab_L} {st : List Value} {w : ab_W} (h : ab_isI (ls 3) = true) : ab_Run ab_mt 177 35 ls st w = ab_Run ab_mt 177 36 ls (ab_gv (ls 3) :: st) w := E_loadi (n := 1) rfl h
theorem e_177_36 {ls : ab_L} {st : List Value} {w : ab_W} {x : Int32} : ab_Run ab_mt 177 36 ls (.int x :: st) w = ab_Run ab_mt 177 37 (ab_l1 ls 3 (.int x)) st w := E_stori (n := 1) rfl
theorem e_177_37 {ls : ab_L} {st : List Value} {w : ab_W} (h : ab_isI (ls 5) = true) : ab_Run ab_mt 177 37 ls st w = ab_Run ab_mt 177 40 (ab_l1 ls 5 (.int (ab_gi (ls 5) + (nI 1)))) st w := E_iinc rfl h
theorem e_177_40 {ls : ab_L} {st : List Value} {w : ab_W} : ab_Run ab_mt 177 40 ls st w = ab_Run ab_mt 177 11 ls st w := E_goto rfl
theorem e_177_43 {ls : ab_L} {st : List Value} {w : ab_W} (h : ab_isI (ls 3) = true) : ab_Run ab_mt 177 43 ls st w = ab_Run ab_mt 177 44 ls (ab_gv (ls 3) :: st) w := E_loadi (n := 1) rfl h
theorem e_177_44 {ls : ab_L} {w : ab_W} {x : Int32} : ab_Run ab_mt 177 44 ls [.int x] w = some (.inl (some (.int x)), w) := E_reti rfl
theorem rv_177 {σ : ab_S} {t : Nat} {x0 : Int64} : ab_recv ab_mt 177 [.ref t, .long x0] σ = ab_isO 7 (σ t) := rfl
theorem e_178_0 {ls : ab_L} {st : List Value} {w : ab_W} (h : ab_isR (ls 0) = true) : ab_Run ab_mt 178 0 ls st w = ab_Run ab_mt 178 1 ls (ab_gv (ls 0) :: st) w := E_loadr (n := 1) rfl h
theorem e_178_1 {ls : ab_L} {st : List Value} {w : ab_W} (h : ab_isI (ls 3) = true) : ab_Run ab_mt 178 1 ls st w = ab_Run ab_mt 178 2 ls (ab_gv (ls 3) :: st) w := E_loadi (n := 1) rfl h
theorem e_178_2 {ls : ab_L} {st : List Value} {w : ab_W} {x : Int32} : ab_Run ab_mt 178 2 ls (.int x :: st) w = ab_Run ab_mt 178 3 ls (.long x.toInt64 :: st) w := E_i2l rfl
theorem e_178_3 {ls : ab_L} {st : List Value} {w : ab_W} : ab_Run ab_mt 178 3 ls st w = ab_Run ab_mt 178 4 ls (.long (lN 0) :: st) w := E_push (n := 1) rfl
theorem e_178_4 {ls : ab_L} {st : List Value} {w : ab_W} : ab_Run ab_mt 178 4 ls st w = ab_Run ab_mt 178 7 ls (.long (lN 2) :: st) w := E_push (n := 3) rfl
theorem e_178_7 {ls : ab_L} {st : List Value} {w : ab_W} {v0 v1 v2 : Value} (h1 : ab_recv ab_mt 107 [v0, v1, v2] w.2 = true) (h8 : ab_w8 st = true) : ab_Run ab_mt 178 7 ls (v2 :: v1 :: v0 :: st) w = ab_aft 107 178 7 ls st (ab_Cl 107 [v0, v1, v2] w) := E_call3 rfl h1 h8
theorem e_178_10 {ls : ab_L} {st : List Value} {w : ab_W} {x : Int32} : ab_Run ab_mt 178 10 ls (.int x :: st) w = if x = 0 then ab_Run ab_mt 178 17 ls st w else ab_Run ab_mt 178 13 ls st w := E_if_eq rfl
theorem e_178_13 {ls : ab_L} {st : List Value} {w : ab_W} : ab_Run ab_mt 178 13 ls st w = ab_Run ab_mt 178 14 ls (.int (nI 0) :: st) w := E_push (n := 1) rfl
theorem e_178_14 {ls : ab_L} {st : List Value} {w : ab_W} : ab_Run ab_mt 178 14 ls st w = ab_Run ab_mt 178 18 ls st w := E_goto rfl
theorem e_178_17 {ls : ab_L} {st : List Value} {w : ab_W} : ab_Run ab_mt 178 17 ls st w = ab_Run ab_mt 178 18 ls (.int (nI 1) :: st) w := E_push (n := 1) rfl
theorem e_178_18 {ls : ab_L} {st : List Value} {w : ab_W} {a : Nat} {x : Int32} (h : ab_isF 7 0 (w.2 a) = true) : ab_Run ab_mt 178 18 ls (.int x :: .ref a :: st) w = ab_Run ab_mt 178 21 ls st (w.1, ab_up w.2 a (ab_sf 0 (.int x) (w.2 a))) := E_put rfl h rfl
theorem e_178_21 {ls : ab_L} {st : List Value} {w : ab_W} (h : ab_isR (ls 0) = true) : ab_Run ab_mt 178 21 ls st w = ab_Run ab_mt 178 22 ls (ab_gv (ls 0) :: st) w := E_loadr (n := 1) rfl h
theorem e_178_22 {ls : ab_L} {st : List Value} {w : ab_W} {a : Nat} (h : ab_isF 7 0 (w.2 a) = true) : ab_Run ab_mt 178 22 ls (.ref a :: st) w = ab_Run ab_mt 178 25 ls (ab_fv 0 (w.2 a) :: st) w := E_get rfl h
theorem e_178_25 {ls : ab_L} {st : List Value} {w : ab_W} {x : Int32} : ab_Run ab_mt 178 25 ls (.int x :: st) w = if x ≤ 0 then ab_Run ab_mt 178 30 ls st w else ab_Run ab_mt 178 28 ls st w := E_if_le rfl
theorem e_178_28 {ls : ab_L} {st : List Value} {w : ab_W} : ab_Run ab_mt 178 28 ls st w = ab_Run ab_mt 178 29 ls (.int (nI 0) :: st) w := E_push (n := 1) rfl
theorem e_178_29 {ls : ab_L} {w : ab_W} {x : Int32} : ab_Run ab_mt 178 29 ls [.int x] w = some (.inl (some (.int x)), w) := E_reti rfl
theorem e_178_30 {ls : ab_L} {st : List Value} {w : ab_W} (h : ab_isR (ls 0) = true) : ab_Run ab_mt 178 30 ls st w = ab_Run ab_mt 178 31 ls (ab_gv (ls 0) :: st) w := E_loadr (n := 1) rfl h
theorem e_178_31 {ls : ab_L} {st : List Value} {w : ab_W} {v0 : Value} (h1 : ab_recv ab_mt 122 [v0] w.2 = true) (h8 : ab_w8 st = true) : ab_Run ab_mt 178 31 ls (v0 :: st) w = ab_aft 122 178 31 ls st (ab_Cl 122 [v0] w) := E_call1 rfl h1 h8
theorem e_178_34 {ls : ab_L} {st : List Value} {w : ab_W} (h : ab_isL (ls 1) = true) (h2 : (ls 2).isNone = true) : ab_Run ab_mt 178 34 ls st w = ab_Run ab_mt 178 35 ls (ab_gv (ls 1) :: st) w := E_loadl (n := 1) rfl h h2
theorem e_178_35 {ls : ab_L} {st : List Value} {w : ab_W} : ab_Run ab_mt 178 35 ls st w = ab_Run ab_mt 178 36 ls (.long (lN 0) :: st) w := E_push (n := 1) rfl
theorem e_178_36 {ls : ab_L} {st : List Value} {w : ab_W} {x y : Int64} : ab_Run ab_mt 178 36 ls (.long y :: .long x :: st) w = ab_Run ab_mt 178 37 ls (.int (lg_cmp x y) :: st) w := E_lcmp rfl
theorem e_178_37 {ls : ab_L} {st : List Value} {w : ab_W} {x : Int32} : ab_Run ab_mt 178 37 ls (.int x :: st) w = if x < 0 then ab_Run ab_mt 178 49 ls st w else ab_Run ab_mt 178 40 ls st w := E_if_lt rfl
theorem e_178_40 {ls : ab_L} {st : List Value} {w : ab_W} (h : ab_isL (ls 1) = true) (h2 : (ls 2).isNone = true) : ab_Run ab_mt 178 40 ls st w = ab_Run ab_mt 178 41 ls (ab_gv (ls 1) :: st) w := E_loadl (n := 1) rfl h h2
theorem e_178_41 {ls : ab_L} {st : List Value} {w : ab_W} (h : ab_isR (ls 0) = true) : ab_Run ab_mt 178 41 ls st w = ab_Run ab_mt 178 42 ls (ab_gv (ls 0) :: st) w := E_loadr (n := 1) rfl h
theorem e_178_42 {ls : ab_L} {st : List Value} {w : ab_W} {a : Nat} (h : ab_isF 7 17 (w.2 a) = true) : ab_Run ab_mt 178 42 ls (.ref a :: st) w = ab_Run ab_mt 178 45 ls (ab_fv 17 (w.2 a) :: st) w := E_get rfl h
theorem e_178_45 {ls : ab_L} {st : List Value} {w : ab_W} {x y : Int64} : ab_Run ab_mt 178 45 ls (.long y :: .long x :: st) w = ab_Run ab_mt 178 46 ls (.int (lg_cmp x y) :: st) w := E_lcmp rfl
theorem e_178_46 {ls : ab_L} {st : List Value} {w : ab_W} {x : Int32} : ab_Run ab_mt 178 46 ls (.int x :: st) w = if x < 0 then ab_Run ab_mt 178 51 ls st w else ab_Run ab_mt 178 49 ls st w := E_if_lt rfl
theorem e_178_49 {ls : ab_L} {st : List Value} {w : ab_W} : ab_Run ab_mt 178 49 ls st w = ab_Run ab_mt 178 50 ls (.int (-1) :: st) w := E_push (n := 1) rfl
theorem e_178_50 {ls : ab_L} {w : ab_W} {x : Int32} : ab_Run ab_mt 178 50 ls [.int x] w = some (.inl (some (.int x)), w) := E_reti rfl
theorem e_178_51 {ls : ab_L} {st : List Value} {w : ab_W} (h : ab_isR (ls 0) = true) : ab_Run ab_mt 178 51 ls st w = ab_Run ab_mt 178 52 ls (ab_gv (ls 0) :: st) w := E_loadr (n := 1) rfl h
theorem e_178_52 {ls : ab_L} {st : List Value} {w : ab_W} (h : ab_isL (ls 1) = true) (h2 : (ls 2).isNone = true) : ab_Run ab_mt 178 52 ls st w = ab_Run ab_mt 178 53 ls (ab_gv (ls 1) :: st) w := E_loadl (n := 1) rfl h h2
theorem e_178_53 {ls : ab_L} {st : List Value} {w : ab_W} {v0 v1 : Value} (h1 : ab_recv ab_mt 177 [v0, v1] w.2 = true) (h8 : ab_w8 st = true) : ab_Run ab_mt 178 53 ls (v1 :: v0 :: st) w = ab_aft 177 178 53 ls st (ab_Cl 177 [v0, v1] w) := E_call2 rfl h1 h8
theorem e_178_56 {ls : ab_L} {st : List Value} {w : ab_W} {x : Int32} : ab_Run ab_mt 178 56 ls (.int x :: st) w = ab_Run ab_mt 178 58 (ab_l1 ls 4 (.int x)) st w := E_stori (n := 2) rfl
theorem e_178_58 {ls : ab_L} {st : List Value} {w : ab_W} (h : ab_isL (ls 1) = true) (h2 : (ls 2).isNone = true) : ab_Run ab_mt 178 58 ls st w = ab_Run ab_mt 178 59 ls (ab_gv (ls 1) :: st) w := E_loadl (n := 1) rfl h h2
theorem e_178_59 {ls : ab_L} {st : List Value} {w : ab_W} (h : ab_isR (ls 0) = true) : ab_Run ab_mt 178 59 ls st w = ab_Run ab_mt 178 60 ls (ab_gv (ls 0) :: st) w := E_loadr (n := 1) rfl h
theorem e_178_60 {ls : ab_L} {st : List Value} {w : ab_W} {a : Nat} (h : ab_isF 7 15 (w.2 a) = true) : ab_Run ab_mt 178 60 ls (.ref a :: st) w = ab_Run ab_mt 178 63 ls (ab_fv 15 (w.2 a) :: st) w := E_get rfl h
theorem e_178_63 {ls : ab_L} {st : List Value} {w : ab_W} (h : ab_isI (ls 4) = true) : ab_Run ab_mt 178 63 ls st w = ab_Run ab_mt 178 65 ls (ab_gv (ls 4) :: st) w := E_loadi (n := 2) rfl h
theorem e_178_65 {ls : ab_L} {st : List Value} {w : ab_W} {a : Nat} {i : Int32} (h : ab_inL i (w.2 a) = true) : ab_Run ab_mt 178 65 ls (.int i :: .ref a :: st) w = ab_Run ab_mt 178 66 ls (.long (ab_aL i.toNatClampNeg (w.2 a)) :: st) w := E_lald rfl h
theorem e_178_66 {ls : ab_L} {st : List Value} {w : ab_W} {x y : Int64} : ab_Run ab_mt 178 66 ls (.long y :: .long x :: st) w = ab_Run ab_mt 178 67 ls (.long (x - y) :: st) w := E_lb (f := fun x y => x - y) rfl
theorem e_178_67 {ls : ab_L} {st : List Value} {w : ab_W} {x : Int64} : ab_Run ab_mt 178 67 ls (.long x :: st) w = ab_Run ab_mt 178 69 (ab_l2 ls 5 (.long x)) st w := E_storl (n := 2) rfl
theorem e_178_69 {ls : ab_L} {st : List Value} {w : ab_W} (h : ab_isI (ls 3) = true) : ab_Run ab_mt 178 69 ls st w = ab_Run ab_mt 178 70 ls (ab_gv (ls 3) :: st) w := E_loadi (n := 1) rfl h
theorem e_178_70 {ls : ab_L} {st : List Value} {w : ab_W} {x : Int32} : ab_Run ab_mt 178 70 ls (.int x :: st) w = if x = 0 then ab_Run ab_mt 178 73 ls st w else ab_Run ab_mt 178 76 ls st w := E_if_ne rfl
theorem e_178_73 {ls : ab_L} {st : List Value} {w : ab_W} (h : ab_isI (ls 4) = true) : ab_Run ab_mt 178 73 ls st w = ab_Run ab_mt 178 75 ls (ab_gv (ls 4) :: st) w := E_loadi (n := 2) rfl h
theorem e_178_75 {ls : ab_L} {w : ab_W} {x : Int32} : ab_Run ab_mt 178 75 ls [.int x] w = some (.inl (some (.int x)), w) := E_reti rfl
theorem e_178_76 {ls : ab_L} {st : List Value} {w : ab_W} (h : ab_isI (ls 3) = true) : ab_Run ab_mt 178 76 ls st w = ab_Run ab_mt 178 77 ls (ab_gv (ls 3) :: st) w := E_loadi (n := 1) rfl h
theorem e_178_77 {ls : ab_L} {st : List Value} {w : ab_W} : ab_Run ab_mt 178 77 ls st w = ab_Run ab_mt 178 78 ls (.int (nI 2) :: st) w := E_push (n := 1) rfl
theorem e_178_78 {ls : ab_L} {st : List Value} {w : ab_W} {x y : Int32} : ab_Run ab_mt 178 78 ls (.int y :: .int x :: st) w = if x = y then ab_Run ab_mt 178 81 ls st w else ab_Run ab_mt 178 100 ls st w := E_ic_ne rfl
theorem e_178_81 {ls : ab_L} {st : List Value} {w : ab_W} (h : ab_isL (ls 5) = true) (h2 : (ls 6).isNone = true) : ab_Run ab_mt 178 81 ls st w = ab_Run ab_mt 178 83 ls (ab_gv (ls 5) :: st) w := E_loadl (n := 2) rfl h h2
theorem e_178_83 {ls : ab_L} {st : List Value} {w : ab_W} (h : ab_isR (ls 0) = true) : ab_Run ab_mt 178 83 ls st w = ab_Run ab_mt 178 84 ls (ab_gv (ls 0) :: st) w := E_loadr (n := 1) rfl h
theorem e_178_84 {ls : ab_L} {st : List Value} {w : ab_W} {a : Nat} (h : ab_isF 7 16 (w.2 a) = true) : ab_Run ab_mt 178 84 ls (.ref a :: st) w = ab_Run ab_mt 178 87 ls (ab_fv 16 (w.2 a) :: st) w := E_get rfl h
theorem e_178_87 {ls : ab_L} {st : List Value} {w : ab_W} (h : ab_isI (ls 4) = true) : ab_Run ab_mt 178 87 ls st w = ab_Run ab_mt 178 89 ls (ab_gv (ls 4) :: st) w := E_loadi (n := 2) rfl h
theorem e_178_89 {ls : ab_L} {st : List Value} {w : ab_W} {a : Nat} {i : Int32} (h : ab_inL i (w.2 a) = true) : ab_Run ab_mt 178 89 ls (.int i :: .ref a :: st) w = ab_Run ab_mt 178 90 ls (.long (ab_aL i.toNatClampNeg (w.2 a)) :: st) w := E_lald rfl h
theorem e_178_90 {ls : ab_L} {st : List Value} {w : ab_W} {x y : Int64} : ab_Run ab_mt 178 90 ls (.long y :: .long x :: st) w = ab_Run ab_mt 178 91 ls (.int (lg_cmp x y) :: st) w := E_lcmp rfl
theorem e_178_91 {ls : ab_L} {st : List Value} {w : ab_W} {x : Int32} : ab_Run ab_mt 178 91 ls (.int x :: st) w = if 0 ≤ x then ab_Run ab_mt 178 98 ls st w else ab_Run ab_mt 178 94 ls st w := E_if_ge rfl
theorem e_178_94 {ls : ab_L} {st : List Value} {w : ab_W} : ab_Run ab_mt 178 94 ls st w = ab_Run ab_mt 178 95 ls (.int (nI 0) :: st) w := E_push (n := 1) rfl
theorem e_178_95 {ls : ab_L} {st : List Value} {w : ab_W} : ab_Run ab_mt 178 95 ls st w = ab_Run ab_mt 178 99 ls st w := E_goto rfl
theorem e_178_98 {ls : ab_L} {st : List Value} {w : ab_W} : ab_Run ab_mt 178 98 ls st w = ab_Run ab_mt 178 99 ls (.int (nI 1) :: st) w := E_push (n := 1) rfl
theorem e_178_99 {ls : ab_L} {w : ab_W} {x : Int32} : ab_Run ab_mt 178 99 ls [.int x] w = some (.inl (some (.int x)), w) := E_reti rfl
theorem e_178_100 {ls : ab_L} {st : List Value} {w : ab_W} (h : ab_isL (ls 5) = true) (h2 : (ls 6).isNone = true) : ab_Run ab_mt 178 100 ls st w = ab_Run ab_mt 178 102 ls (ab_gv (ls 5) :: st) w := E_loadl (n := 2) rfl h h2
theorem e_178_102 {ls : ab_L} {st : List Value} {w : ab_W} (h : ab_isR (ls 0) = true) : ab_Run ab_mt 178 102 ls st w = ab_Run ab_mt 178 103 ls (ab_gv (ls 0) :: st) w := E_loadr (n := 1) rfl h
theorem e_178_103 {ls : ab_L} {st : List Value} {w : ab_W} {a : Nat} (h : ab_isF 7 16 (w.2 a) = true) : ab_Run ab_mt 178 103 ls (.ref a :: st) w = ab_Run ab_mt 178 106 ls (ab_fv 16 (w.2 a) :: st) w := E_get rfl h
theorem e_178_106 {ls : ab_L} {st : List Value} {w : ab_W} (h : ab_isI (ls 4) = true) : ab_Run ab_mt 178 106 ls st w = ab_Run ab_mt 178 108 ls (ab_gv (ls 4) :: st) w := E_loadi (n := 2) rfl h
theorem e_178_108 {ls : ab_L} {st : List Value} {w : ab_W} {a : Nat} {i : Int32} (h : ab_inL i (w.2 a) = true) : ab_Run ab_mt 178 108 ls (.int i :: .ref a :: st) w = ab_Run ab_mt 178 109 ls (.long (ab_aL i.toNatClampNeg (w.2 a)) :: st) w := E_lald rfl h
theorem e_178_109 {ls : ab_L} {st : List Value} {w : ab_W} {x y : Int64} : ab_Run ab_mt 178 109 ls (.long y :: .long x :: st) w = ab_Run ab_mt 178 110 ls (.int (lg_cmp x y) :: st) w := E_lcmp rfl
theorem e_178_110 {ls : ab_L} {st : List Value} {w : ab_W} {x : Int32} : ab_Run ab_mt 178 110 ls (.int x :: st) w = if x < 0 then ab_Run ab_mt 178 119 ls st w else ab_Run ab_mt 178 113 ls st w := E_if_lt rfl
theorem e_178_113 {ls : ab_L} {st : List Value} {w : ab_W} : ab_Run ab_mt 178 113 ls st w = ab_Run ab_mt 178 116 ls (.int (nI 480) :: st) w := E_push (n := 3) rfl
theorem e_178_116 {ls : ab_L} {st : List Value} {w : ab_W} : ab_Run ab_mt 178 116 ls st w = ab_Run ab_mt 178 134 ls st w := E_goto rfl
theorem e_178_119 {ls : ab_L} {st : List Value} {w : ab_W} (h : ab_isL (ls 5) = true) (h2 : (ls 6).isNone = true) : ab_Run ab_mt 178 119 ls st w = ab_Run ab_mt 178 121 ls (ab_gv (ls 5) :: st) w := E_loadl (n := 2) rfl h h2
theorem e_178_121 {ls : ab_L} {st : List Value} {w : ab_W} : ab_Run ab_mt 178 121 ls st w = ab_Run ab_mt 178 124 ls (.long (lN 480) :: st) w := E_push (n := 3) rfl
theorem e_178_124 {ls : ab_L} {st : List Value} {w : ab_W} {x y : Int64} : ab_Run ab_mt 178 124 ls (.long y :: .long x :: st) w = ab_Run ab_mt 178 125 ls (.long (x * y) :: st) w := E_lb (f := fun x y => x * y) rfl
theorem e_178_125 {ls : ab_L} {st : List Value} {w : ab_W} (h : ab_isR (ls 0) = true) : ab_Run ab_mt 178 125 ls st w = ab_Run ab_mt 178 126 ls (ab_gv (ls 0) :: st) w := E_loadr (n := 1) rfl h
theorem e_178_126 {ls : ab_L} {st : List Value} {w : ab_W} {a : Nat} (h : ab_isF 7 16 (w.2 a) = true) : ab_Run ab_mt 178 126 ls (.ref a :: st) w = ab_Run ab_mt 178 129 ls (ab_fv 16 (w.2 a) :: st) w := E_get rfl h
theorem e_178_129 {ls : ab_L} {st : List Value} {w : ab_W} (h : ab_isI (ls 4) = true) : ab_Run ab_mt 178 129 ls st w = ab_Run ab_mt 178 131 ls (ab_gv (ls 4) :: st) w := E_loadi (n := 2) rfl h
theorem e_178_131 {ls : ab_L} {st : List Value} {w : ab_W} {a : Nat} {i : Int32} (h : ab_inL i (w.2 a) = true) : ab_Run ab_mt 178 131 ls (.int i :: .ref a :: st) w = ab_Run ab_mt 178 132 ls (.long (ab_aL i.toNatClampNeg (w.2 a)) :: st) w := E_lald rfl h
theorem e_178_132 {ls : ab_L} {st : List Value} {w : ab_W} {x y : Int64} (h : ¬ y = 0) : ab_Run ab_mt 178 132 ls (.long y :: .long x :: st) w = ab_Run ab_mt 178 133 ls (.long (x / y) :: st) w := E_ldv (f := fun x y => x / y) rfl h
theorem e_178_133 {ls : ab_L} {st : List Value} {w : ab_W} {x : Int64} : ab_Run ab_mt 178 133 ls (.long x :: st) w = ab_Run ab_mt 178 134 ls (.int x.toInt32 :: st) w := E_l2i rfl
theorem e_178_134 {ls : ab_L} {w : ab_W} {x : Int32} : ab_Run ab_mt 178 134 ls [.int x] w = some (.inl (some (.int x)), w) := E_reti rfl
theorem rv_178 {σ : ab_S} {t : Nat} {x0 : Int64} {x1 : Int32} : ab_recv ab_mt 178 [.ref t, .long x0, .int x1] σ = ab_isO 7 (σ t) := rfl
theorem x_178_31 {ls : ab_L} {rest : List Value} {E : Nat} {w : ab_W} : ab_aft 122 178 31 ls rest (some (.inr E, w)) = some (.inr E, w) := ab_aft_x rfl rfl (by unfold ab_hand; rfl)
theorem e_179_0 {ls : ab_L} {st : List Value} {w : ab_W} : ab_Run ab_mt 179 0 ls st w = ab_Run ab_mt 179 1 ls (.long (lN 0) :: st) w := E_push (n := 1) rfl
theorem e_179_1 {ls : ab_L} {st : List Value} {w : ab_W} {x : Int64} : ab_Run ab_mt 179 1 ls (.long x :: st) w = ab_Run ab_mt 179 2 (ab_l2 ls 1 (.long x)) st w := E_storl (n := 1) rfl
theorem e_179_2 {ls : ab_L} {st : List Value} {w : ab_W} : ab_Run ab_mt 179 2 ls st w = ab_Run ab_mt 179 3 ls (.int (nI 0) :: st) w := E_push (n := 1) rfl
theorem e_179_3 {ls : ab_L} {st : List Value} {w : ab_W} {x : Int32} : ab_Run ab_mt 179 3 ls (.int x :: st) w = ab_Run ab_mt 179 4 (ab_l1 ls 3 (.int x)) st w := E_stori (n := 1) rfl
theorem e_179_4 {ls : ab_L} {st : List Value} {w : ab_W} (h : ab_isI (ls 3) = true) : ab_Run ab_mt 179 4 ls st w = ab_Run ab_mt 179 5 ls (ab_gv (ls 3) :: st) w := E_loadi (n := 1) rfl h
theorem e_179_5 {ls : ab_L} {st : List Value} {w : ab_W} (h : ab_isR (ls 0) = true) : ab_Run ab_mt 179 5 ls st w = ab_Run ab_mt 179 6 ls (ab_gv (ls 0) :: st) w := E_loadr (n := 1) rfl h
theorem e_179_6 {ls : ab_L} {st : List Value} {w : ab_W} {v0 : Value} (h1 : ab_recv ab_mt 108 [v0] w.2 = true) (h8 : ab_w8 st = true) : ab_Run ab_mt 179 6 ls (v0 :: st) w = ab_aft 108 179 6 ls st (ab_Cl 108 [v0] w) := E_call1 rfl h1 h8
theorem e_179_9 {ls : ab_L} {st : List Value} {w : ab_W} {x y : Int32} : ab_Run ab_mt 179 9 ls (.int y :: .int x :: st) w = if y ≤ x then ab_Run ab_mt 179 35 ls st w else ab_Run ab_mt 179 12 ls st w := E_ic_ge rfl
theorem e_179_12 {ls : ab_L} {st : List Value} {w : ab_W} (h : ab_isL (ls 1) = true) (h2 : (ls 2).isNone = true) : ab_Run ab_mt 179 12 ls st w = ab_Run ab_mt 179 13 ls (ab_gv (ls 1) :: st) w := E_loadl (n := 1) rfl h h2
theorem e_179_13 {ls : ab_L} {st : List Value} {w : ab_W} (h : ab_isR (ls 0) = true) : ab_Run ab_mt 179 13 ls st w = ab_Run ab_mt 179 14 ls (ab_gv (ls 0) :: st) w := E_loadr (n := 1) rfl h
theorem e_179_14 {ls : ab_L} {st : List Value} {w : ab_W} (h : ab_isI (ls 3) = true) : ab_Run ab_mt 179 14 ls st w = ab_Run ab_mt 179 15 ls (ab_gv (ls 3) :: st) w := E_loadi (n := 1) rfl h
theorem e_179_15 {ls : ab_L} {st : List Value} {w : ab_W} : ab_Run ab_mt 179 15 ls st w = ab_Run ab_mt 179 16 ls (.int (nI 0) :: st) w := E_push (n := 1) rfl
theorem e_179_16 {ls : ab_L} {st : List Value} {w : ab_W} {v0 v1 v2 : Value} (h1 : ab_recv ab_mt 109 [v0, v1, v2] w.2 = true) (h8 : ab_w8 st = true) : ab_Run ab_mt 179 16 ls (v2 :: v1 :: v0 :: st) w = ab_aft 109 179 16 ls st (ab_Cl 109 [v0, v1, v2] w) := E_call3 rfl h1 h8
theorem e_179_19 {ls : ab_L} {st : List Value} {w : ab_W} (h : ab_isR (ls 0) = true) : ab_Run ab_mt 179 19 ls st w = ab_Run ab_mt 179 20 ls (ab_gv (ls 0) :: st) w := E_loadr (n := 1) rfl h
theorem e_179_20 {ls : ab_L} {st : List Value} {w : ab_W} (h : ab_isI (ls 3) = true) : ab_Run ab_mt 179 20 ls st w = ab_Run ab_mt 179 21 ls (ab_gv (ls 3) :: st) w := E_loadi (n := 1) rfl h
theorem e_179_21 {ls : ab_L} {st : List Value} {w : ab_W} : ab_Run ab_mt 179 21 ls st w = ab_Run ab_mt 179 22 ls (.int (nI 1) :: st) w := E_push (n := 1) rfl
theorem e_179_22 {ls : ab_L} {st : List Value} {w : ab_W} {v0 v1 v2 : Value} (h1 : ab_recv ab_mt 109 [v0, v1, v2] w.2 = true) (h8 : ab_w8 st = true) : ab_Run ab_mt 179 22 ls (v2 :: v1 :: v0 :: st) w = ab_aft 109 179 22 ls st (ab_Cl 109 [v0, v1, v2] w) := E_call3 rfl h1 h8
theorem e_179_25 {ls : ab_L} {st : List Value} {w : ab_W} {x y : Int32} : ab_Run ab_mt 179 25 ls (.int y :: .int x :: st) w = ab_Run ab_mt 179 26 ls (.int (x * y) :: st) w := E_ib (f := fun x y => x * y) rfl
theorem e_179_26 {ls : ab_L} {st : List Value} {w : ab_W} {x : Int32} : ab_Run ab_mt 179 26 ls (.int x :: st) w = ab_Run ab_mt 179 27 ls (.long x.toInt64 :: st) w := E_i2l rfl
theorem e_179_27 {ls : ab_L} {st : List Value} {w : ab_W} {x y : Int64} : ab_Run ab_mt 179 27 ls (.long y :: .long x :: st) w = ab_Run ab_mt 179 28 ls (.long (x + y) :: st) w := E_lb (f := fun x y => x + y) rfl
theorem e_179_28 {ls : ab_L} {st : List Value} {w : ab_W} {x : Int64} : ab_Run ab_mt 179 28 ls (.long x :: st) w = ab_Run ab_mt 179 29 (ab_l2 ls 1 (.long x)) st w := E_storl (n := 1) rfl
theorem e_179_29 {ls : ab_L} {st : List Value} {w : ab_W} (h : ab_isI (ls 3) = true) : ab_Run ab_mt 179 29 ls st w = ab_Run ab_mt 179 32 (ab_l1 ls 3 (.int (ab_gi (ls 3) + (nI 1)))) st w := E_iinc rfl h
theorem e_179_32 {ls : ab_L} {st : List Value} {w : ab_W} : ab_Run ab_mt 179 32 ls st w = ab_Run ab_mt 179 4 ls st w := E_goto rfl
theorem e_179_35 {ls : ab_L} {st : List Value} {w : ab_W} (h : ab_isL (ls 1) = true) (h2 : (ls 2).isNone = true) : ab_Run ab_mt 179 35 ls st w = ab_Run ab_mt 179 36 ls (ab_gv (ls 1) :: st) w := E_loadl (n := 1) rfl h h2
theorem e_179_36 {ls : ab_L} {w : ab_W} {x : Int64} : ab_Run ab_mt 179 36 ls [.long x] w = some (.inl (some (.long x)), w) := E_retl rfl
theorem rv_179 {σ : ab_S} {t : Nat} : ab_recv ab_mt 179 [.ref t] σ = ab_isO 7 (σ t) := rfl
theorem e_180_0 {ls : ab_L} {st : List Value} {w : ab_W} : ab_Run ab_mt 180 0 ls st w = ab_Run ab_mt 180 1 ls (.long (lN 0) :: st) w := E_push (n := 1) rfl
theorem e_180_1 {ls : ab_L} {st : List Value} {w : ab_W} {x : Int64} : ab_Run ab_mt 180 1 ls (.long x :: st) w = ab_Run ab_mt 180 2 (ab_l2 ls 1 (.long x)) st w := E_storl (n := 1) rfl
theorem e_180_2 {ls : ab_L} {st : List Value} {w : ab_W} : ab_Run ab_mt 180 2 ls st w = ab_Run ab_mt 180 3 ls (.int (nI 0) :: st) w := E_push (n := 1) rfl
theorem e_180_3 {ls : ab_L} {st : List Value} {w : ab_W} {x : Int32} : ab_Run ab_mt 180 3 ls (.int x :: st) w = ab_Run ab_mt 180 4 (ab_l1 ls 3 (.int x)) st w := E_stori (n := 1) rfl
theorem e_180_4 {ls : ab_L} {st : List Value} {w : ab_W} (h : ab_isI (ls 3) = true) : ab_Run ab_mt 180 4 ls st w = ab_Run ab_mt 180 5 ls (ab_gv (ls 3) :: st) w := E_loadi (n := 1) rfl h
theorem e_180_5 {ls : ab_L} {st : List Value} {w : ab_W} (h : ab_isR (ls 0) = true) : ab_Run ab_mt 180 5 ls st w = ab_Run ab_mt 180 6 ls (ab_gv (ls 0) :: st) w := E_loadr (n := 1) rfl h
theorem e_180_6 {ls : ab_L} {st : List Value} {w : ab_W} {v0 : Value} (h1 : ab_recv ab_mt 108 [v0] w.2 = true) (h8 : ab_w8 st = true) : ab_Run ab_mt 180 6 ls (v0 :: st) w = ab_aft 108 180 6 ls st (ab_Cl 108 [v0] w) := E_call1 rfl h1 h8
theorem e_180_9 {ls : ab_L} {st : List Value} {w : ab_W} {x y : Int32} : ab_Run ab_mt 180 9 ls (.int y :: .int x :: st) w = if y ≤ x then ab_Run ab_mt 180 32 ls st w else ab_Run ab_mt 180 12 ls st w := E_ic_ge rfl
theorem e_180_12 {ls : ab_L} {st : List Value} {w : ab_W} (h : ab_isL (ls 1) = true) (h2 : (ls 2).isNone = true) : ab_Run ab_mt 180 12 ls st w = ab_Run ab_mt 180 13 ls (ab_gv (ls 1) :: st) w := E_loadl (n := 1) rfl h h2
theorem e_180_13 {ls : ab_L} {st : List Value} {w : ab_W} : ab_Run ab_mt 180 13 ls st w = ab_Run ab_mt 180 16 ls (.long (lN 1000) :: st) w := E_push (n := 3) rfl
theorem e_180_16 {ls : ab_L} {st : List Value} {w : ab_W} (h : ab_isR (ls 0) = true) : ab_Run ab_mt 180 16 ls st w = ab_Run ab_mt 180 17 ls (ab_gv (ls 0) :: st) w := E_loadr (n := 1) rfl h
theorem e_180_17 {ls : ab_L} {st : List Value} {w : ab_W} (h : ab_isI (ls 3) = true) : ab_Run ab_mt 180 17 ls st w = ab_Run ab_mt 180 18 ls (ab_gv (ls 3) :: st) w := E_loadi (n := 1) rfl h
theorem e_180_18 {ls : ab_L} {st : List Value} {w : ab_W} : ab_Run ab_mt 180 18 ls st w = ab_Run ab_mt 180 19 ls (.int (nI 3) :: st) w := E_push (n := 1) rfl
theorem e_180_19 {ls : ab_L} {st : List Value} {w : ab_W} {v0 v1 v2 : Value} (h1 : ab_recv ab_mt 109 [v0, v1, v2] w.2 = true) (h8 : ab_w8 st = true) : ab_Run ab_mt 180 19 ls (v2 :: v1 :: v0 :: st) w = ab_aft 109 180 19 ls st (ab_Cl 109 [v0, v1, v2] w) := E_call3 rfl h1 h8
theorem e_180_22 {ls : ab_L} {st : List Value} {w : ab_W} {x : Int32} : ab_Run ab_mt 180 22 ls (.int x :: st) w = ab_Run ab_mt 180 23 ls (.long x.toInt64 :: st) w := E_i2l rfl
theorem e_180_23 {ls : ab_L} {st : List Value} {w : ab_W} {x y : Int64} : ab_Run ab_mt 180 23 ls (.long y :: .long x :: st) w = ab_Run ab_mt 180 24 ls (.long (x * y) :: st) w := E_lb (f := fun x y => x * y) rfl
theorem e_180_24 {ls : ab_L} {st : List Value} {w : ab_W} {x y : Int64} : ab_Run ab_mt 180 24 ls (.long y :: .long x :: st) w = ab_Run ab_mt 180 25 ls (.long (x + y) :: st) w := E_lb (f := fun x y => x + y) rfl
theorem e_180_25 {ls : ab_L} {st : List Value} {w : ab_W} {x : Int64} : ab_Run ab_mt 180 25 ls (.long x :: st) w = ab_Run ab_mt 180 26 (ab_l2 ls 1 (.long x)) st w := E_storl (n := 1) rfl
theorem e_180_26 {ls : ab_L} {st : List Value} {w : ab_W} (h : ab_isI (ls 3) = true) : ab_Run ab_mt 180 26 ls st w = ab_Run ab_mt 180 29 (ab_l1 ls 3 (.int (ab_gi (ls 3) + (nI 1)))) st w := E_iinc rfl h
theorem e_180_29 {ls : ab_L} {st : List Value} {w : ab_W} : ab_Run ab_mt 180 29 ls st w = ab_Run ab_mt 180 4 ls st w := E_goto rfl
theorem e_180_32 {ls : ab_L} {st : List Value} {w : ab_W} (h : ab_isL (ls 1) = true) (h2 : (ls 2).isNone = true) : ab_Run ab_mt 180 32 ls st w = ab_Run ab_mt 180 33 ls (ab_gv (ls 1) :: st) w := E_loadl (n := 1) rfl h h2
theorem e_180_33 {ls : ab_L} {w : ab_W} {x : Int64} : ab_Run ab_mt 180 33 ls [.long x] w = some (.inl (some (.long x)), w) := E_retl rfl
theorem rv_180 {σ : ab_S} {t : Nat} : ab_recv ab_mt 180 [.ref t] σ = ab_isO 7 (σ t) := rfl
theorem e_181_0 {ls : ab_L} {st : List Value} {w : ab_W} : ab_Run ab_mt 181 0 ls st w = ab_Run ab_mt 181 1 ls (.long (lN 0) :: st) w := E_push (n := 1) rfl
theorem e_181_1 {ls : ab_L} {st : List Value} {w : ab_W} {x : Int64} : ab_Run ab_mt 181 1 ls (.long x :: st) w = ab_Run ab_mt 181 2 (ab_l2 ls 2 (.long x)) st w := E_storl (n := 1) rfl
theorem e_181_2 {ls : ab_L} {st : List Value} {w : ab_W} (h : ab_isR (ls 0) = true) : ab_Run ab_mt 181 2 ls st w = ab_Run ab_mt 181 3 ls (ab_gv (ls 0) :: st) w := E_loadr (n := 1) rfl h
theorem e_181_3 {ls : ab_L} {st : List Value} {w : ab_W} {v0 : Value} (h1 : ab_recv ab_mt 114 [v0] w.2 = true) (h8 : ab_w8 st = true) : ab_Run ab_mt 181 3 ls (v0 :: st) w = ab_aft 114 181 3 ls st (ab_Cl 114 [v0] w) := E_call1 rfl h1 h8
theorem e_181_6 {ls : ab_L} {st : List Value} {w : ab_W} {x : Int32} : ab_Run ab_mt 181 6 ls (.int x :: st) w = ab_Run ab_mt 181 8 (ab_l1 ls 4 (.int x)) st w := E_stori (n := 2) rfl
theorem e_181_8 {ls : ab_L} {st : List Value} {w : ab_W} : ab_Run ab_mt 181 8 ls st w = ab_Run ab_mt 181 9 ls (.int (nI 0) :: st) w := E_push (n := 1) rfl
theorem e_181_9 {ls : ab_L} {st : List Value} {w : ab_W} {x : Int32} : ab_Run ab_mt 181 9 ls (.int x :: st) w = ab_Run ab_mt 181 11 (ab_l1 ls 5 (.int x)) st w := E_stori (n := 2) rfl
theorem e_181_11 {ls : ab_L} {st : List Value} {w : ab_W} (h : ab_isI (ls 5) = true) : ab_Run ab_mt 181 11 ls st w = ab_Run ab_mt 181 13 ls (ab_gv (ls 5) :: st) w := E_loadi (n := 2) rfl h
theorem e_181_13 {ls : ab_L} {st : List Value} {w : ab_W} (h : ab_isI (ls 4) = true) : ab_Run ab_mt 181 13 ls st w = ab_Run ab_mt 181 15 ls (ab_gv (ls 4) :: st) w := E_loadi (n := 2) rfl h
theorem e_181_15 {ls : ab_L} {st : List Value} {w : ab_W} {x y : Int32} : ab_Run ab_mt 181 15 ls (.int y :: .int x :: st) w = if y ≤ x then ab_Run ab_mt 181 62 ls st w else ab_Run ab_mt 181 18 ls st w := E_ic_ge rfl
theorem e_181_18 {ls : ab_L} {st : List Value} {w : ab_W} (h : ab_isL (ls 2) = true) (h2 : (ls 3).isNone = true) : ab_Run ab_mt 181 18 ls st w = ab_Run ab_mt 181 19 ls (ab_gv (ls 2) :: st) w := E_loadl (n := 1) rfl h h2
theorem e_181_19 {ls : ab_L} {st : List Value} {w : ab_W} (h : ab_isR (ls 0) = true) : ab_Run ab_mt 181 19 ls st w = ab_Run ab_mt 181 20 ls (ab_gv (ls 0) :: st) w := E_loadr (n := 1) rfl h
theorem e_181_20 {ls : ab_L} {st : List Value} {w : ab_W} (h : ab_isR (ls 0) = true) : ab_Run ab_mt 181 20 ls st w = ab_Run ab_mt 181 21 ls (ab_gv (ls 0) :: st) w := E_loadr (n := 1) rfl h
theorem e_181_21 {ls : ab_L} {st : List Value} {w : ab_W} {a : Nat} (h : ab_isF 7 14 (w.2 a) = true) : ab_Run ab_mt 181 21 ls (.ref a :: st) w = ab_Run ab_mt 181 24 ls (ab_fv 14 (w.2 a) :: st) w := E_get rfl h
theorem e_181_24 {ls : ab_L} {st : List Value} {w : ab_W} (h : ab_isI (ls 5) = true) : ab_Run ab_mt 181 24 ls st w = ab_Run ab_mt 181 26 ls (ab_gv (ls 5) :: st) w := E_loadi (n := 2) rfl h
theorem e_181_26 {ls : ab_L} {st : List Value} {w : ab_W} {a : Nat} {i : Int32} (h : ab_inI i (w.2 a) = true) : ab_Run ab_mt 181 26 ls (.int i :: .ref a :: st) w = ab_Run ab_mt 181 27 ls (.int (ab_aI i.toNatClampNeg (w.2 a)) :: st) w := E_iald rfl h
theorem e_181_27 {ls : ab_L} {st : List Value} {w : ab_W} : ab_Run ab_mt 181 27 ls st w = ab_Run ab_mt 181 28 ls (.int (nI 2) :: st) w := E_push (n := 1) rfl
theorem e_181_28 {ls : ab_L} {st : List Value} {w : ab_W} {v0 v1 v2 : Value} (h1 : ab_recv ab_mt 109 [v0, v1, v2] w.2 = true) (h8 : ab_w8 st = true) : ab_Run ab_mt 181 28 ls (v2 :: v1 :: v0 :: st) w = ab_aft 109 181 28 ls st (ab_Cl 109 [v0, v1, v2] w) := E_call3 rfl h1 h8
theorem e_181_31 {ls : ab_L} {st : List Value} {w : ab_W} {x : Int32} : ab_Run ab_mt 181 31 ls (.int x :: st) w = if x ≤ 0 then ab_Run ab_mt 181 38 ls st w else ab_Run ab_mt 181 34 ls st w := E_if_le rfl
theorem e_181_34 {ls : ab_L} {st : List Value} {w : ab_W} : ab_Run ab_mt 181 34 ls st w = ab_Run ab_mt 181 35 ls (.int (nI 1) :: st) w := E_push (n := 1) rfl
theorem e_181_35 {ls : ab_L} {st : List Value} {w : ab_W} : ab_Run ab_mt 181 35 ls st w = ab_Run ab_mt 181 39 ls st w := E_goto rfl
theorem e_181_38 {ls : ab_L} {st : List Value} {w : ab_W} : ab_Run ab_mt 181 38 ls st w = ab_Run ab_mt 181 39 ls (.int (nI 0) :: st) w := E_push (n := 1) rfl
theorem e_181_39 {ls : ab_L} {st : List Value} {w : ab_W} (h : ab_isI (ls 1) = true) : ab_Run ab_mt 181 39 ls st w = ab_Run ab_mt 181 40 ls (ab_gv (ls 1) :: st) w := E_loadi (n := 1) rfl h
theorem e_181_40 {ls : ab_L} {st : List Value} {w : ab_W} {x y : Int32} : ab_Run ab_mt 181 40 ls (.int y :: .int x :: st) w = if x = y then ab_Run ab_mt 181 43 ls st w else ab_Run ab_mt 181 53 ls st w := E_ic_ne rfl
theorem e_181_43 {ls : ab_L} {st : List Value} {w : ab_W} (h : ab_isR (ls 0) = true) : ab_Run ab_mt 181 43 ls st w = ab_Run ab_mt 181 44 ls (ab_gv (ls 0) :: st) w := E_loadr (n := 1) rfl h
theorem e_181_44 {ls : ab_L} {st : List Value} {w : ab_W} {a : Nat} (h : ab_isF 7 16 (w.2 a) = true) : ab_Run ab_mt 181 44 ls (.ref a :: st) w = ab_Run ab_mt 181 47 ls (ab_fv 16 (w.2 a) :: st) w := E_get rfl h
theorem e_181_47 {ls : ab_L} {st : List Value} {w : ab_W} (h : ab_isI (ls 5) = true) : ab_Run ab_mt 181 47 ls st w = ab_Run ab_mt 181 49 ls (ab_gv (ls 5) :: st) w := E_loadi (n := 2) rfl h
theorem e_181_49 {ls : ab_L} {st : List Value} {w : ab_W} {a : Nat} {i : Int32} (h : ab_inL i (w.2 a) = true) : ab_Run ab_mt 181 49 ls (.int i :: .ref a :: st) w = ab_Run ab_mt 181 50 ls (.long (ab_aL i.toNatClampNeg (w.2 a)) :: st) w := E_lald rfl h
theorem e_181_50 {ls : ab_L} {st : List Value} {w : ab_W} : ab_Run ab_mt 181 50 ls st w = ab_Run ab_mt 181 54 ls st w := E_goto rfl
theorem e_181_53 {ls : ab_L} {st : List Value} {w : ab_W} : ab_Run ab_mt 181 53 ls st w = ab_Run ab_mt 181 54 ls (.long (lN 0) :: st) w := E_push (n := 1) rfl
theorem e_181_54 {ls : ab_L} {st : List Value} {w : ab_W} {x y : Int64} : ab_Run ab_mt 181 54 ls (.long y :: .long x :: st) w = ab_Run ab_mt 181 55 ls (.long (x + y) :: st) w := E_lb (f := fun x y => x + y) rfl
theorem e_181_55 {ls : ab_L} {st : List Value} {w : ab_W} {x : Int64} : ab_Run ab_mt 181 55 ls (.long x :: st) w = ab_Run ab_mt 181 56 (ab_l2 ls 2 (.long x)) st w := E_storl (n := 1) rfl
theorem e_181_56 {ls : ab_L} {st : List Value} {w : ab_W} (h : ab_isI (ls 5) = true) : ab_Run ab_mt 181 56 ls st w = ab_Run ab_mt 181 59 (ab_l1 ls 5 (.int (ab_gi (ls 5) + (nI 1)))) st w := E_iinc rfl h
theorem e_181_59 {ls : ab_L} {st : List Value} {w : ab_W} : ab_Run ab_mt 181 59 ls st w = ab_Run ab_mt 181 11 ls st w := E_goto rfl
theorem e_181_62 {ls : ab_L} {st : List Value} {w : ab_W} (h : ab_isL (ls 2) = true) (h2 : (ls 3).isNone = true) : ab_Run ab_mt 181 62 ls st w = ab_Run ab_mt 181 63 ls (ab_gv (ls 2) :: st) w := E_loadl (n := 1) rfl h h2
theorem e_181_63 {ls : ab_L} {w : ab_W} {x : Int64} : ab_Run ab_mt 181 63 ls [.long x] w = some (.inl (some (.long x)), w) := E_retl rfl
theorem rv_181 {σ : ab_S} {t : Nat} {x0 : Int32} : ab_recv ab_mt 181 [.ref t, .int x0] σ = ab_isO 7 (σ t) := rfl
theorem e_182_0 {ls : ab_L} {st : List Value} {w : ab_W} (h : ab_isI (ls 1) = true) : ab_Run ab_mt 182 0 ls st w = ab_Run ab_mt 182 1 ls (ab_gv (ls 1) :: st) w := E_loadi (n := 1) rfl h
theorem e_182_1 {ls : ab_L} {st : List Value} {w : ab_W} {x : Int32} : ab_Run ab_mt 182 1 ls (.int x :: st) w = if x.toInt < 0 ∨ 10 < x.toInt then ab_Run ab_mt 182 138 ls st w else ab_Run ab_mt 182 (([60, 66, 72, 82, 92, 97, 102, 107, 113, 119, 132] : List Nat).getD (x.toInt - 0).toNat 0) ls st w := E_swi rfl (by decide)
theorem e_182_60 {ls : ab_L} {st : List Value} {w : ab_W} (h : ab_isR (ls 0) = true) : ab_Run ab_mt 182 60 ls st w = ab_Run ab_mt 182 61 ls (ab_gv (ls 0) :: st) w := E_loadr (n := 1) rfl h
theorem e_182_61 {ls : ab_L} {st : List Value} {w : ab_W} {v0 : Value} (h1 : ab_recv ab_mt 108 [v0] w.2 = true) (h8 : ab_w8 st = true) : ab_Run ab_mt 182 61 ls (v0 :: st) w = ab_aft 108 182 61 ls st (ab_Cl 108 [v0] w) := E_call1 rfl h1 h8
theorem e_182_64 {ls : ab_L} {st : List Value} {w : ab_W} {x : Int32} : ab_Run ab_mt 182 64 ls (.int x :: st) w = ab_Run ab_mt 182 65 ls (.long x.toInt64 :: st) w := E_i2l rfl
theorem e_182_65 {ls : ab_L} {w : ab_W} {x : Int64} : ab_Run ab_mt 182 65 ls [.long x] w = some (.inl (some (.long x)), w) := E_retl rfl
theorem e_182_66 {ls : ab_L} {st : List Value} {w : ab_W} (h : ab_isR (ls 0) = true) : ab_Run ab_mt 182 66 ls st w = ab_Run ab_mt 182 67 ls (ab_gv (ls 0) :: st) w := E_loadr (n := 1) rfl h
theorem e_182_67 {ls : ab_L} {st : List Value} {w : ab_W} {v0 : Value} (h1 : ab_recv ab_mt 114 [v0] w.2 = true) (h8 : ab_w8 st = true) : ab_Run ab_mt 182 67 ls (v0 :: st) w = ab_aft 114 182 67 ls st (ab_Cl 114 [v0] w) := E_call1 rfl h1 h8
theorem e_182_70 {ls : ab_L} {st : List Value} {w : ab_W} {x : Int32} : ab_Run ab_mt 182 70 ls (.int x :: st) w = ab_Run ab_mt 182 71 ls (.long x.toInt64 :: st) w := E_i2l rfl
theorem e_182_71 {ls : ab_L} {w : ab_W} {x : Int64} : ab_Run ab_mt 182 71 ls [.long x] w = some (.inl (some (.long x)), w) := E_retl rfl
theorem e_182_72 {ls : ab_L} {st : List Value} {w : ab_W} (h : ab_isR (ls 0) = true) : ab_Run ab_mt 182 72 ls st w = ab_Run ab_mt 182 73 ls (ab_gv (ls 0) :: st) w := E_loadr (n := 1) rfl h
theorem e_182_73 {ls : ab_L} {st : List Value} {w : ab_W} {a : Nat} (h : ab_isF 7 1 (w.2 a) = true) : ab_Run ab_mt 182 73 ls (.ref a :: st) w = ab_Run ab_mt 182 76 ls (ab_fv 1 (w.2 a) :: st) w := E_get rfl h
theorem e_182_76 {ls : ab_L} {st : List Value} {w : ab_W} : ab_Run ab_mt 182 76 ls st w = ab_Run ab_mt 182 79 ls (.int (nI 191) :: st) w := E_push (n := 3) rfl
theorem e_182_79 {ls : ab_L} {st : List Value} {w : ab_W} {a : Nat} {i : Int32} (h : ab_inI i (w.2 a) = true) : ab_Run ab_mt 182 79 ls (.int i :: .ref a :: st) w = ab_Run ab_mt 182 80 ls (.int (ab_aI i.toNatClampNeg (w.2 a)) :: st) w := E_iald rfl h
theorem e_182_80 {ls : ab_L} {st : List Value} {w : ab_W} {x : Int32} : ab_Run ab_mt 182 80 ls (.int x :: st) w = ab_Run ab_mt 182 81 ls (.long x.toInt64 :: st) w := E_i2l rfl
theorem e_182_81 {ls : ab_L} {w : ab_W} {x : Int64} : ab_Run ab_mt 182 81 ls [.long x] w = some (.inl (some (.long x)), w) := E_retl rfl
theorem e_182_82 {ls : ab_L} {st : List Value} {w : ab_W} (h : ab_isR (ls 0) = true) : ab_Run ab_mt 182 82 ls st w = ab_Run ab_mt 182 83 ls (ab_gv (ls 0) :: st) w := E_loadr (n := 1) rfl h
theorem e_182_83 {ls : ab_L} {st : List Value} {w : ab_W} {a : Nat} (h : ab_isF 7 1 (w.2 a) = true) : ab_Run ab_mt 182 83 ls (.ref a :: st) w = ab_Run ab_mt 182 86 ls (ab_fv 1 (w.2 a) :: st) w := E_get rfl h
theorem e_182_86 {ls : ab_L} {st : List Value} {w : ab_W} : ab_Run ab_mt 182 86 ls st w = ab_Run ab_mt 182 89 ls (.int (nI 192) :: st) w := E_push (n := 3) rfl
theorem e_182_89 {ls : ab_L} {st : List Value} {w : ab_W} {a : Nat} {i : Int32} (h : ab_inI i (w.2 a) = true) : ab_Run ab_mt 182 89 ls (.int i :: .ref a :: st) w = ab_Run ab_mt 182 90 ls (.int (ab_aI i.toNatClampNeg (w.2 a)) :: st) w := E_iald rfl h
theorem e_182_90 {ls : ab_L} {st : List Value} {w : ab_W} {x : Int32} : ab_Run ab_mt 182 90 ls (.int x :: st) w = ab_Run ab_mt 182 91 ls (.long x.toInt64 :: st) w := E_i2l rfl
theorem e_182_91 {ls : ab_L} {w : ab_W} {x : Int64} : ab_Run ab_mt 182 91 ls [.long x] w = some (.inl (some (.long x)), w) := E_retl rfl
theorem e_182_92 {ls : ab_L} {st : List Value} {w : ab_W} (h : ab_isR (ls 0) = true) : ab_Run ab_mt 182 92 ls st w = ab_Run ab_mt 182 93 ls (ab_gv (ls 0) :: st) w := E_loadr (n := 1) rfl h
theorem e_182_93 {ls : ab_L} {st : List Value} {w : ab_W} {v0 : Value} (h1 : ab_recv ab_mt 179 [v0] w.2 = true) (h8 : ab_w8 st = true) : ab_Run ab_mt 182 93 ls (v0 :: st) w = ab_aft 179 182 93 ls st (ab_Cl 179 [v0] w) := E_call1 rfl h1 h8
theorem e_182_96 {ls : ab_L} {w : ab_W} {x : Int64} : ab_Run ab_mt 182 96 ls [.long x] w = some (.inl (some (.long x)), w) := E_retl rfl
theorem e_182_97 {ls : ab_L} {st : List Value} {w : ab_W} (h : ab_isR (ls 0) = true) : ab_Run ab_mt 182 97 ls st w = ab_Run ab_mt 182 98 ls (ab_gv (ls 0) :: st) w := E_loadr (n := 1) rfl h
theorem e_182_98 {ls : ab_L} {st : List Value} {w : ab_W} {a : Nat} (h : ab_isF 7 17 (w.2 a) = true) : ab_Run ab_mt 182 98 ls (.ref a :: st) w = ab_Run ab_mt 182 101 ls (ab_fv 17 (w.2 a) :: st) w := E_get rfl h
theorem e_182_101 {ls : ab_L} {w : ab_W} {x : Int64} : ab_Run ab_mt 182 101 ls [.long x] w = some (.inl (some (.long x)), w) := E_retl rfl
theorem e_182_102 {ls : ab_L} {st : List Value} {w : ab_W} (h : ab_isR (ls 0) = true) : ab_Run ab_mt 182 102 ls st w = ab_Run ab_mt 182 103 ls (ab_gv (ls 0) :: st) w := E_loadr (n := 1) rfl h
theorem e_182_103 {ls : ab_L} {st : List Value} {w : ab_W} {v0 : Value} (h1 : ab_recv ab_mt 180 [v0] w.2 = true) (h8 : ab_w8 st = true) : ab_Run ab_mt 182 103 ls (v0 :: st) w = ab_aft 180 182 103 ls st (ab_Cl 180 [v0] w) := E_call1 rfl h1 h8
theorem e_182_106 {ls : ab_L} {w : ab_W} {x : Int64} : ab_Run ab_mt 182 106 ls [.long x] w = some (.inl (some (.long x)), w) := E_retl rfl
theorem e_182_107 {ls : ab_L} {st : List Value} {w : ab_W} (h : ab_isR (ls 0) = true) : ab_Run ab_mt 182 107 ls st w = ab_Run ab_mt 182 108 ls (ab_gv (ls 0) :: st) w := E_loadr (n := 1) rfl h
theorem e_182_108 {ls : ab_L} {st : List Value} {w : ab_W} : ab_Run ab_mt 182 108 ls st w = ab_Run ab_mt 182 109 ls (.int (nI 1) :: st) w := E_push (n := 1) rfl
theorem e_182_109 {ls : ab_L} {st : List Value} {w : ab_W} {v0 v1 : Value} (h1 : ab_recv ab_mt 181 [v0, v1] w.2 = true) (h8 : ab_w8 st = true) : ab_Run ab_mt 182 109 ls (v1 :: v0 :: st) w = ab_aft 181 182 109 ls st (ab_Cl 181 [v0, v1] w) := E_call2 rfl h1 h8
theorem e_182_112 {ls : ab_L} {w : ab_W} {x : Int64} : ab_Run ab_mt 182 112 ls [.long x] w = some (.inl (some (.long x)), w) := E_retl rfl
theorem e_182_113 {ls : ab_L} {st : List Value} {w : ab_W} (h : ab_isR (ls 0) = true) : ab_Run ab_mt 182 113 ls st w = ab_Run ab_mt 182 114 ls (ab_gv (ls 0) :: st) w := E_loadr (n := 1) rfl h
theorem e_182_114 {ls : ab_L} {st : List Value} {w : ab_W} : ab_Run ab_mt 182 114 ls st w = ab_Run ab_mt 182 115 ls (.int (nI 0) :: st) w := E_push (n := 1) rfl
theorem e_182_115 {ls : ab_L} {st : List Value} {w : ab_W} {v0 v1 : Value} (h1 : ab_recv ab_mt 181 [v0, v1] w.2 = true) (h8 : ab_w8 st = true) : ab_Run ab_mt 182 115 ls (v1 :: v0 :: st) w = ab_aft 181 182 115 ls st (ab_Cl 181 [v0, v1] w) := E_call2 rfl h1 h8
theorem e_182_118 {ls : ab_L} {w : ab_W} {x : Int64} : ab_Run ab_mt 182 118 ls [.long x] w = some (.inl (some (.long x)), w) := E_retl rfl
theorem e_182_119 {ls : ab_L} {st : List Value} {w : ab_W} (h : ab_isR (ls 0) = true) : ab_Run ab_mt 182 119 ls st w = ab_Run ab_mt 182 120 ls (ab_gv (ls 0) :: st) w := E_loadr (n := 1) rfl h
theorem e_182_120 {ls : ab_L} {st : List Value} {w : ab_W} {a : Nat} (h : ab_isF 7 9 (w.2 a) = true) : ab_Run ab_mt 182 120 ls (.ref a :: st) w = ab_Run ab_mt 182 123 ls (ab_fv 9 (w.2 a) :: st) w := E_get rfl h
theorem e_182_123 {ls : ab_L} {st : List Value} {w : ab_W} {x : Int32} : ab_Run ab_mt 182 123 ls (.int x :: st) w = if x = 0 then ab_Run ab_mt 182 130 ls st w else ab_Run ab_mt 182 126 ls st w := E_if_eq rfl
theorem e_182_126 {ls : ab_L} {st : List Value} {w : ab_W} : ab_Run ab_mt 182 126 ls st w = ab_Run ab_mt 182 127 ls (.long (lN 1) :: st) w := E_push (n := 1) rfl
theorem e_182_127 {ls : ab_L} {st : List Value} {w : ab_W} : ab_Run ab_mt 182 127 ls st w = ab_Run ab_mt 182 131 ls st w := E_goto rfl
theorem e_182_130 {ls : ab_L} {st : List Value} {w : ab_W} : ab_Run ab_mt 182 130 ls st w = ab_Run ab_mt 182 131 ls (.long (lN 0) :: st) w := E_push (n := 1) rfl
theorem e_182_131 {ls : ab_L} {w : ab_W} {x : Int64} : ab_Run ab_mt 182 131 ls [.long x] w = some (.inl (some (.long x)), w) := E_retl rfl
theorem e_182_132 {ls : ab_L} {st : List Value} {w : ab_W} (h : ab_isR (ls 0) = true) : ab_Run ab_mt 182 132 ls st w = ab_Run ab_mt 182 133 ls (ab_gv (ls 0) :: st) w := E_loadr (n := 1) rfl h
theorem e_182_133 {ls : ab_L} {st : List Value} {w : ab_W} {a : Nat} (h : ab_isF 7 3 (w.2 a) = true) : ab_Run ab_mt 182 133 ls (.ref a :: st) w = ab_Run ab_mt 182 136 ls (ab_fv 3 (w.2 a) :: st) w := E_get rfl h
theorem e_182_136 {ls : ab_L} {st : List Value} {w : ab_W} {x : Int32} : ab_Run ab_mt 182 136 ls (.int x :: st) w = ab_Run ab_mt 182 137 ls (.long x.toInt64 :: st) w := E_i2l rfl
theorem e_182_137 {ls : ab_L} {w : ab_W} {x : Int64} : ab_Run ab_mt 182 137 ls [.long x] w = some (.inl (some (.long x)), w) := E_retl rfl
theorem e_182_138 {ls : ab_L} {st : List Value} {w : ab_W} (h : ab_isR (ls 0) = true) : ab_Run ab_mt 182 138 ls st w = ab_Run ab_mt 182 139 ls (ab_gv (ls 0) :: st) w := E_loadr (n := 1) rfl h
theorem e_182_139 {ls : ab_L} {st : List Value} {w : ab_W} {a : Nat} (h : ab_isF 7 5 (w.2 a) = true) : ab_Run ab_mt 182 139 ls (.ref a :: st) w = ab_Run ab_mt 182 142 ls (ab_fv 5 (w.2 a) :: st) w := E_get rfl h
theorem e_182_142 {ls : ab_L} {st : List Value} {w : ab_W} {x : Int32} : ab_Run ab_mt 182 142 ls (.int x :: st) w = ab_Run ab_mt 182 143 ls (.long x.toInt64 :: st) w := E_i2l rfl
theorem e_182_143 {ls : ab_L} {w : ab_W} {x : Int64} : ab_Run ab_mt 182 143 ls [.long x] w = some (.inl (some (.long x)), w) := E_retl rfl
theorem rv_182 {σ : ab_S} {t : Nat} {x0 : Int32} : ab_recv ab_mt 182 [.ref t, .int x0] σ = ab_isO 7 (σ t) := rfl
theorem e_183_0 {ls : ab_L} {st : List Value} {w : ab_W} (h : ab_isR (ls 0) = true) : ab_Run ab_mt 183 0 ls st w = ab_Run ab_mt 183 1 ls (ab_gv (ls 0) :: st) w := E_loadr (n := 1) rfl h
theorem e_183_1 {ls : ab_L} {st : List Value} {w : ab_W} (h : ab_isI (ls 1) = true) : ab_Run ab_mt 183 1 ls st w = ab_Run ab_mt 183 2 ls (ab_gv (ls 1) :: st) w := E_loadi (n := 1) rfl h
theorem e_183_2 {ls : ab_L} {st : List Value} {w : ab_W} {x : Int32} : ab_Run ab_mt 183 2 ls (.int x :: st) w = ab_Run ab_mt 183 3 ls (.long x.toInt64 :: st) w := E_i2l rfl
theorem e_183_3 {ls : ab_L} {st : List Value} {w : ab_W} : ab_Run ab_mt 183 3 ls st w = ab_Run ab_mt 183 4 ls (.long (lN 0) :: st) w := E_push (n := 1) rfl
theorem e_183_4 {ls : ab_L} {st : List Value} {w : ab_W} : ab_Run ab_mt 183 4 ls st w = ab_Run ab_mt 183 7 ls (.long (lN 11) :: st) w := E_push (n := 3) rfl
theorem e_183_7 {ls : ab_L} {st : List Value} {w : ab_W} {v0 v1 v2 : Value} (h1 : ab_recv ab_mt 107 [v0, v1, v2] w.2 = true) (h8 : ab_w8 st = true) : ab_Run ab_mt 183 7 ls (v2 :: v1 :: v0 :: st) w = ab_aft 107 183 7 ls st (ab_Cl 107 [v0, v1, v2] w) := E_call3 rfl h1 h8
theorem e_183_10 {ls : ab_L} {st : List Value} {w : ab_W} {x : Int32} : ab_Run ab_mt 183 10 ls (.int x :: st) w = if x = 0 then ab_Run ab_mt 183 17 ls st w else ab_Run ab_mt 183 13 ls st w := E_if_eq rfl
theorem e_183_13 {ls : ab_L} {st : List Value} {w : ab_W} : ab_Run ab_mt 183 13 ls st w = ab_Run ab_mt 183 14 ls (.int (nI 0) :: st) w := E_push (n := 1) rfl
theorem e_183_14 {ls : ab_L} {st : List Value} {w : ab_W} : ab_Run ab_mt 183 14 ls st w = ab_Run ab_mt 183 18 ls st w := E_goto rfl
theorem e_183_17 {ls : ab_L} {st : List Value} {w : ab_W} : ab_Run ab_mt 183 17 ls st w = ab_Run ab_mt 183 18 ls (.int (nI 1) :: st) w := E_push (n := 1) rfl
theorem e_183_18 {ls : ab_L} {st : List Value} {w : ab_W} {a : Nat} {x : Int32} (h : ab_isF 7 0 (w.2 a) = true) : ab_Run ab_mt 183 18 ls (.int x :: .ref a :: st) w = ab_Run ab_mt 183 21 ls st (w.1, ab_up w.2 a (ab_sf 0 (.int x) (w.2 a))) := E_put rfl h rfl
theorem e_183_21 {ls : ab_L} {st : List Value} {w : ab_W} (h : ab_isR (ls 0) = true) : ab_Run ab_mt 183 21 ls st w = ab_Run ab_mt 183 22 ls (ab_gv (ls 0) :: st) w := E_loadr (n := 1) rfl h
theorem e_183_22 {ls : ab_L} {st : List Value} {w : ab_W} {a : Nat} (h : ab_isF 7 0 (w.2 a) = true) : ab_Run ab_mt 183 22 ls (.ref a :: st) w = ab_Run ab_mt 183 25 ls (ab_fv 0 (w.2 a) :: st) w := E_get rfl h
theorem e_183_25 {ls : ab_L} {st : List Value} {w : ab_W} {x : Int32} : ab_Run ab_mt 183 25 ls (.int x :: st) w = if x ≤ 0 then ab_Run ab_mt 183 30 ls st w else ab_Run ab_mt 183 28 ls st w := E_if_le rfl
theorem e_183_28 {ls : ab_L} {st : List Value} {w : ab_W} : ab_Run ab_mt 183 28 ls st w = ab_Run ab_mt 183 29 ls (.long (lN 0) :: st) w := E_push (n := 1) rfl
theorem e_183_29 {ls : ab_L} {w : ab_W} {x : Int64} : ab_Run ab_mt 183 29 ls [.long x] w = some (.inl (some (.long x)), w) := E_retl rfl
theorem e_183_30 {ls : ab_L} {st : List Value} {w : ab_W} (h : ab_isR (ls 0) = true) : ab_Run ab_mt 183 30 ls st w = ab_Run ab_mt 183 31 ls (ab_gv (ls 0) :: st) w := E_loadr (n := 1) rfl h
theorem e_183_31 {ls : ab_L} {st : List Value} {w : ab_W} {v0 : Value} (h1 : ab_recv ab_mt 122 [v0] w.2 = true) (h8 : ab_w8 st = true) : ab_Run ab_mt 183 31 ls (v0 :: st) w = ab_aft 122 183 31 ls st (ab_Cl 122 [v0] w) := E_call1 rfl h1 h8
theorem e_183_34 {ls : ab_L} {st : List Value} {w : ab_W} (h : ab_isR (ls 0) = true) : ab_Run ab_mt 183 34 ls st w = ab_Run ab_mt 183 35 ls (ab_gv (ls 0) :: st) w := E_loadr (n := 1) rfl h
theorem e_183_35 {ls : ab_L} {st : List Value} {w : ab_W} (h : ab_isI (ls 1) = true) : ab_Run ab_mt 183 35 ls st w = ab_Run ab_mt 183 36 ls (ab_gv (ls 1) :: st) w := E_loadi (n := 1) rfl h
theorem e_183_36 {ls : ab_L} {st : List Value} {w : ab_W} {v0 v1 : Value} (h1 : ab_recv ab_mt 182 [v0, v1] w.2 = true) (h8 : ab_w8 st = true) : ab_Run ab_mt 183 36 ls (v1 :: v0 :: st) w = ab_aft 182 183 36 ls st (ab_Cl 182 [v0, v1] w) := E_call2 rfl h1 h8
theorem e_183_39 {ls : ab_L} {w : ab_W} {x : Int64} : ab_Run ab_mt 183 39 ls [.long x] w = some (.inl (some (.long x)), w) := E_retl rfl
theorem rv_183 {σ : ab_S} {t : Nat} {x0 : Int32} : ab_recv ab_mt 183 [.ref t, .int x0] σ = ab_isO 7 (σ t) := rfl
theorem x_183_31 {ls : ab_L} {rest : List Value} {E : Nat} {w : ab_W} : ab_aft 122 183 31 ls rest (some (.inr E, w)) = some (.inr E, w) := ab_aft_x rfl rfl (by unfold ab_hand; rfl)
theorem x_183_36 {ls : ab_L} {rest : List Value} {E : Nat} {w : ab_W} : ab_aft 182 183 36 ls rest (some (.inr E, w)) = some (.inr E, w) := ab_aft_x rfl rfl (by unfold ab_hand; rfl)
theorem e_184_0 {ls : ab_L} {st : List Value} {w : ab_W} (h : ab_isL (ls 0) = true) (h2 : (ls 1).isNone = true) : ab_Run ab_mt 184 0 ls st w = ab_Run ab_mt 184 1 ls (ab_gv (ls 0) :: st) w := E_loadl (n := 1) rfl h h2
theorem e_184_1 {ls : ab_L} {st : List Value} {w : ab_W} : ab_Run ab_mt 184 1 ls st w = ab_Run ab_mt 184 2 ls (.long (lN 1) :: st) w := E_push (n := 1) rfl
theorem e_184_2 {ls : ab_L} {st : List Value} {w : ab_W} : ab_Run ab_mt 184 2 ls st w = ab_Run ab_mt 184 5 ls (.long (lN 1000000000) :: st) w := E_push (n := 3) rfl
theorem e_184_5 {ls : ab_L} {st : List Value} {w : ab_W} {v0 v1 v2 : Value} (h1 : ab_recv ab_mt 107 [v0, v1, v2] w.2 = true) (h8 : ab_w8 st = true) : ab_Run ab_mt 184 5 ls (v2 :: v1 :: v0 :: st) w = ab_aft 107 184 5 ls st (ab_Cl 107 [v0, v1, v2] w) := E_call3 rfl h1 h8
theorem e_184_8 {ls : ab_L} {w : ab_W} {x : Int32} (h : ab_fitr 2 (.int x) = true) : ab_Run ab_mt 184 8 ls [.int x] w = some (.inl (some (.int x)), w) := E_retz rfl h
theorem rv_184 {σ : ab_S} {x0 : Int64} : ab_recv ab_mt 184 [.long x0] σ = true := rfl
theorem e_185_0 {ls : ab_L} {st : List Value} {w : ab_W} (h : ab_isR (ls 0) = true) : ab_Run ab_mt 185 0 ls st w = ab_Run ab_mt 185 1 ls (ab_gv (ls 0) :: st) w := E_loadr (n := 1) rfl h
theorem e_185_1 {ls : ab_L} {st : List Value} {w : ab_W} (h : ab_isR (ls 0) = true) : ab_Run ab_mt 185 1 ls st w = ab_Run ab_mt 185 2 ls (ab_gv (ls 0) :: st) w := E_loadr (n := 1) rfl h
theorem e_185_2 {ls : ab_L} {st : List Value} {w : ab_W} (h : ab_isI (ls 1) = true) : ab_Run ab_mt 185 2 ls st w = ab_Run ab_mt 185 3 ls (ab_gv (ls 1) :: st) w := E_loadi (n := 1) rfl h
theorem e_185_3 {ls : ab_L} {st : List Value} {w : ab_W} {v0 v1 : Value} (h1 : ab_recv ab_mt 112 [v0, v1] w.2 = true) (h8 : ab_w8 st = true) : ab_Run ab_mt 185 3 ls (v1 :: v0 :: st) w = ab_aft 112 185 3 ls st (ab_Cl 112 [v0, v1] w) := E_call2 rfl h1 h8
theorem e_185_6 {ls : ab_L} {st : List Value} {w : ab_W} {x : Int32} : ab_Run ab_mt 185 6 ls (.int x :: st) w = if x = 0 then ab_Run ab_mt 185 9 ls st w else ab_Run ab_mt 185 13 ls st w := E_if_ne rfl
theorem e_185_9 {ls : ab_L} {st : List Value} {w : ab_W} : ab_Run ab_mt 185 9 ls st w = ab_Run ab_mt 185 10 ls (.int (nI 1) :: st) w := E_push (n := 1) rfl
theorem e_185_10 {ls : ab_L} {st : List Value} {w : ab_W} : ab_Run ab_mt 185 10 ls st w = ab_Run ab_mt 185 25 ls st w := E_goto rfl
theorem e_185_13 {ls : ab_L} {st : List Value} {w : ab_W} (h : ab_isL (ls 2) = true) (h2 : (ls 3).isNone = true) : ab_Run ab_mt 185 13 ls st w = ab_Run ab_mt 185 14 ls (ab_gv (ls 2) :: st) w := E_loadl (n := 1) rfl h h2
theorem e_185_14 {ls : ab_L} {st : List Value} {w : ab_W} {v0 : Value} (h1 : ab_recv ab_mt 184 [v0] w.2 = true) (h8 : ab_w8 st = true) : ab_Run ab_mt 185 14 ls (v0 :: st) w = ab_aft 184 185 14 ls st (ab_Cl 184 [v0] w) := E_call1 rfl h1 h8
theorem e_185_17 {ls : ab_L} {st : List Value} {w : ab_W} {x : Int32} : ab_Run ab_mt 185 17 ls (.int x :: st) w = if x = 0 then ab_Run ab_mt 185 24 ls st w else ab_Run ab_mt 185 20 ls st w := E_if_eq rfl
theorem e_185_20 {ls : ab_L} {st : List Value} {w : ab_W} : ab_Run ab_mt 185 20 ls st w = ab_Run ab_mt 185 21 ls (.int (nI 0) :: st) w := E_push (n := 1) rfl
theorem e_185_21 {ls : ab_L} {st : List Value} {w : ab_W} : ab_Run ab_mt 185 21 ls st w = ab_Run ab_mt 185 25 ls st w := E_goto rfl
theorem e_185_24 {ls : ab_L} {st : List Value} {w : ab_W} : ab_Run ab_mt 185 24 ls st w = ab_Run ab_mt 185 25 ls (.int (nI 2) :: st) w := E_push (n := 1) rfl
theorem e_185_25 {ls : ab_L} {st : List Value} {w : ab_W} {a : Nat} {x : Int32} (h : ab_isF 7 0 (w.2 a) = true) : ab_Run ab_mt 185 25 ls (.int x :: .ref a :: st) w = ab_Run ab_mt 185 28 ls st (w.1, ab_up w.2 a (ab_sf 0 (.int x) (w.2 a))) := E_put rfl h rfl
theorem e_185_28 {ls : ab_L} {st : List Value} {w : ab_W} (h : ab_isR (ls 0) = true) : ab_Run ab_mt 185 28 ls st w = ab_Run ab_mt 185 29 ls (ab_gv (ls 0) :: st) w := E_loadr (n := 1) rfl h
theorem e_185_29 {ls : ab_L} {st : List Value} {w : ab_W} {a : Nat} (h : ab_isF 7 0 (w.2 a) = true) : ab_Run ab_mt 185 29 ls (.ref a :: st) w = ab_Run ab_mt 185 32 ls (ab_fv 0 (w.2 a) :: st) w := E_get rfl h
theorem e_185_32 {ls : ab_L} {st : List Value} {w : ab_W} {x : Int32} : ab_Run ab_mt 185 32 ls (.int x :: st) w = if x ≤ 0 then ab_Run ab_mt 185 37 ls st w else ab_Run ab_mt 185 35 ls st w := E_if_le rfl
theorem e_185_35 {ls : ab_L} {st : List Value} {w : ab_W} : ab_Run ab_mt 185 35 ls st w = ab_Run ab_mt 185 36 ls (.int (nI 0) :: st) w := E_push (n := 1) rfl
theorem e_185_36 {ls : ab_L} {w : ab_W} {x : Int32} : ab_Run ab_mt 185 36 ls [.int x] w = some (.inl (some (.int x)), w) := E_reti rfl
theorem e_185_37 {ls : ab_L} {st : List Value} {w : ab_W} (h : ab_isR (ls 0) = true) : ab_Run ab_mt 185 37 ls st w = ab_Run ab_mt 185 38 ls (ab_gv (ls 0) :: st) w := E_loadr (n := 1) rfl h
theorem e_185_38 {ls : ab_L} {st : List Value} {w : ab_W} {v0 : Value} (h1 : ab_recv ab_mt 122 [v0] w.2 = true) (h8 : ab_w8 st = true) : ab_Run ab_mt 185 38 ls (v0 :: st) w = ab_aft 122 185 38 ls st (ab_Cl 122 [v0] w) := E_call1 rfl h1 h8
theorem e_185_41 {ls : ab_L} {st : List Value} {w : ab_W} (h : ab_isR (ls 0) = true) : ab_Run ab_mt 185 41 ls st w = ab_Run ab_mt 185 42 ls (ab_gv (ls 0) :: st) w := E_loadr (n := 1) rfl h
theorem e_185_42 {ls : ab_L} {st : List Value} {w : ab_W} {a : Nat} (h : ab_isF 7 17 (w.2 a) = true) : ab_Run ab_mt 185 42 ls (.ref a :: st) w = ab_Run ab_mt 185 45 ls (ab_fv 17 (w.2 a) :: st) w := E_get rfl h
theorem e_185_45 {ls : ab_L} {st : List Value} {w : ab_W} (h : ab_isR (ls 0) = true) : ab_Run ab_mt 185 45 ls st w = ab_Run ab_mt 185 46 ls (ab_gv (ls 0) :: st) w := E_loadr (n := 1) rfl h
theorem e_185_46 {ls : ab_L} {st : List Value} {w : ab_W} {a : Nat} (h : ab_isF 7 15 (w.2 a) = true) : ab_Run ab_mt 185 46 ls (.ref a :: st) w = ab_Run ab_mt 185 49 ls (ab_fv 15 (w.2 a) :: st) w := E_get rfl h
theorem e_185_49 {ls : ab_L} {st : List Value} {w : ab_W} (h : ab_isR (ls 0) = true) : ab_Run ab_mt 185 49 ls st w = ab_Run ab_mt 185 50 ls (ab_gv (ls 0) :: st) w := E_loadr (n := 1) rfl h
theorem e_185_50 {ls : ab_L} {st : List Value} {w : ab_W} (h : ab_isI (ls 1) = true) : ab_Run ab_mt 185 50 ls st w = ab_Run ab_mt 185 51 ls (ab_gv (ls 1) :: st) w := E_loadi (n := 1) rfl h
theorem e_185_51 {ls : ab_L} {st : List Value} {w : ab_W} {v0 v1 : Value} (h1 : ab_recv ab_mt 113 [v0, v1] w.2 = true) (h8 : ab_w8 st = true) : ab_Run ab_mt 185 51 ls (v1 :: v0 :: st) w = ab_aft 113 185 51 ls st (ab_Cl 113 [v0, v1] w) := E_call2 rfl h1 h8
theorem e_185_54 {ls : ab_L} {st : List Value} {w : ab_W} {a : Nat} {i : Int32} (h : ab_inL i (w.2 a) = true) : ab_Run ab_mt 185 54 ls (.int i :: .ref a :: st) w = ab_Run ab_mt 185 55 ls (.long (ab_aL i.toNatClampNeg (w.2 a)) :: st) w := E_lald rfl h
theorem e_185_55 {ls : ab_L} {st : List Value} {w : ab_W} {x y : Int64} : ab_Run ab_mt 185 55 ls (.long y :: .long x :: st) w = ab_Run ab_mt 185 56 ls (.long (x - y) :: st) w := E_lb (f := fun x y => x - y) rfl
theorem e_185_56 {ls : ab_L} {st : List Value} {w : ab_W} {x : Int64} : ab_Run ab_mt 185 56 ls (.long x :: st) w = ab_Run ab_mt 185 58 (ab_l2 ls 4 (.long x)) st w := E_storl (n := 2) rfl
theorem e_185_58 {ls : ab_L} {st : List Value} {w : ab_W} : ab_Run ab_mt 185 58 ls st w = ab_Run ab_mt 185 59 ls (.int (-1) :: st) w := E_push (n := 1) rfl
theorem e_185_59 {ls : ab_L} {st : List Value} {w : ab_W} {x : Int32} : ab_Run ab_mt 185 59 ls (.int x :: st) w = ab_Run ab_mt 185 61 (ab_l1 ls 6 (.int x)) st w := E_stori (n := 2) rfl
theorem e_185_61 {ls : ab_L} {st : List Value} {w : ab_W} : ab_Run ab_mt 185 61 ls st w = ab_Run ab_mt 185 62 ls (.long (lN 0) :: st) w := E_push (n := 1) rfl
theorem e_185_62 {ls : ab_L} {st : List Value} {w : ab_W} {x : Int64} : ab_Run ab_mt 185 62 ls (.long x :: st) w = ab_Run ab_mt 185 64 (ab_l2 ls 7 (.long x)) st w := E_storl (n := 2) rfl
theorem e_185_64 {ls : ab_L} {st : List Value} {w : ab_W} : ab_Run ab_mt 185 64 ls st w = ab_Run ab_mt 185 66 ls (.int (nI 50) :: st) w := E_push (n := 2) rfl
theorem e_185_66 {ls : ab_L} {st : List Value} {w : ab_W} {x : Int32} : ab_Run ab_mt 185 66 ls (.int x :: st) w = ab_Run ab_mt 185 68 (ab_l1 ls 9 (.int x)) st w := E_stori (n := 2) rfl
theorem e_185_68 {ls : ab_L} {st : List Value} {w : ab_W} (h : ab_isI (ls 9) = true) : ab_Run ab_mt 185 68 ls st w = ab_Run ab_mt 185 70 ls (ab_gv (ls 9) :: st) w := E_loadi (n := 2) rfl h
theorem e_185_70 {ls : ab_L} {st : List Value} {w : ab_W} : ab_Run ab_mt 185 70 ls st w = ab_Run ab_mt 185 73 ls (.int (nI 200) :: st) w := E_push (n := 3) rfl
theorem e_185_73 {ls : ab_L} {st : List Value} {w : ab_W} {x y : Int32} : ab_Run ab_mt 185 73 ls (.int y :: .int x :: st) w = if y < x then ab_Run ab_mt 185 135 ls st w else ab_Run ab_mt 185 76 ls st w := E_ic_gt rfl
theorem e_185_76 {ls : ab_L} {st : List Value} {w : ab_W} (h : ab_isL (ls 4) = true) (h2 : (ls 5).isNone = true) : ab_Run ab_mt 185 76 ls st w = ab_Run ab_mt 185 78 ls (ab_gv (ls 4) :: st) w := E_loadl (n := 2) rfl h h2
theorem e_185_78 {ls : ab_L} {st : List Value} {w : ab_W} : ab_Run ab_mt 185 78 ls st w = ab_Run ab_mt 185 81 ls (.long (lN 100) :: st) w := E_push (n := 3) rfl
theorem e_185_81 {ls : ab_L} {st : List Value} {w : ab_W} {x y : Int64} : ab_Run ab_mt 185 81 ls (.long y :: .long x :: st) w = ab_Run ab_mt 185 82 ls (.long (x * y) :: st) w := E_lb (f := fun x y => x * y) rfl
theorem e_185_82 {ls : ab_L} {st : List Value} {w : ab_W} (h : ab_isI (ls 9) = true) : ab_Run ab_mt 185 82 ls st w = ab_Run ab_mt 185 84 ls (ab_gv (ls 9) :: st) w := E_loadi (n := 2) rfl h
theorem e_185_84 {ls : ab_L} {st : List Value} {w : ab_W} {x : Int32} : ab_Run ab_mt 185 84 ls (.int x :: st) w = ab_Run ab_mt 185 85 ls (.long x.toInt64 :: st) w := E_i2l rfl
theorem e_185_85 {ls : ab_L} {st : List Value} {w : ab_W} {x y : Int64} (h : ¬ y = 0) : ab_Run ab_mt 185 85 ls (.long y :: .long x :: st) w = ab_Run ab_mt 185 86 ls (.long (x / y) :: st) w := E_ldv (f := fun x y => x / y) rfl h
theorem e_185_86 {ls : ab_L} {st : List Value} {w : ab_W} (h : ab_isL (ls 2) = true) (h2 : (ls 3).isNone = true) : ab_Run ab_mt 185 86 ls st w = ab_Run ab_mt 185 87 ls (ab_gv (ls 2) :: st) w := E_loadl (n := 1) rfl h h2
theorem e_185_87 {ls : ab_L} {st : List Value} {w : ab_W} {x y : Int64} : ab_Run ab_mt 185 87 ls (.long y :: .long x :: st) w = ab_Run ab_mt 185 88 ls (.long (x - y) :: st) w := E_lb (f := fun x y => x - y) rfl
theorem e_185_88 {ls : ab_L} {st : List Value} {w : ab_W} {x : Int64} : ab_Run ab_mt 185 88 ls (.long x :: st) w = ab_Run ab_mt 185 90 (ab_l2 ls 10 (.long x)) st w := E_storl (n := 2) rfl
theorem e_185_90 {ls : ab_L} {st : List Value} {w : ab_W} (h : ab_isL (ls 10) = true) (h2 : (ls 11).isNone = true) : ab_Run ab_mt 185 90 ls st w = ab_Run ab_mt 185 92 ls (ab_gv (ls 10) :: st) w := E_loadl (n := 2) rfl h h2
theorem e_185_92 {ls : ab_L} {st : List Value} {w : ab_W} : ab_Run ab_mt 185 92 ls st w = ab_Run ab_mt 185 93 ls (.long (lN 0) :: st) w := E_push (n := 1) rfl
theorem e_185_93 {ls : ab_L} {st : List Value} {w : ab_W} {x y : Int64} : ab_Run ab_mt 185 93 ls (.long y :: .long x :: st) w = ab_Run ab_mt 185 94 ls (.int (lg_cmp x y) :: st) w := E_lcmp rfl
theorem e_185_94 {ls : ab_L} {st : List Value} {w : ab_W} {x : Int32} : ab_Run ab_mt 185 94 ls (.int x :: st) w = if 0 ≤ x then ab_Run ab_mt 185 103 ls st w else ab_Run ab_mt 185 97 ls st w := E_if_ge rfl
theorem e_185_97 {ls : ab_L} {st : List Value} {w : ab_W} (h : ab_isL (ls 10) = true) (h2 : (ls 11).isNone = true) : ab_Run ab_mt 185 97 ls st w = ab_Run ab_mt 185 99 ls (ab_gv (ls 10) :: st) w := E_loadl (n := 2) rfl h h2
theorem e_185_99 {ls : ab_L} {st : List Value} {w : ab_W} {x : Int64} : ab_Run ab_mt 185 99 ls (.long x :: st) w = ab_Run ab_mt 185 100 ls (.long (-x) :: st) w := E_lng rfl
theorem e_185_100 {ls : ab_L} {st : List Value} {w : ab_W} : ab_Run ab_mt 185 100 ls st w = ab_Run ab_mt 185 105 ls st w := E_goto rfl
theorem e_185_103 {ls : ab_L} {st : List Value} {w : ab_W} (h : ab_isL (ls 10) = true) (h2 : (ls 11).isNone = true) : ab_Run ab_mt 185 103 ls st w = ab_Run ab_mt 185 105 ls (ab_gv (ls 10) :: st) w := E_loadl (n := 2) rfl h h2
theorem e_185_105 {ls : ab_L} {st : List Value} {w : ab_W} {x : Int64} : ab_Run ab_mt 185 105 ls (.long x :: st) w = ab_Run ab_mt 185 107 (ab_l2 ls 10 (.long x)) st w := E_storl (n := 2) rfl
theorem e_185_107 {ls : ab_L} {st : List Value} {w : ab_W} (h : ab_isI (ls 6) = true) : ab_Run ab_mt 185 107 ls st w = ab_Run ab_mt 185 109 ls (ab_gv (ls 6) :: st) w := E_loadi (n := 2) rfl h
theorem e_185_109 {ls : ab_L} {st : List Value} {w : ab_W} : ab_Run ab_mt 185 109 ls st w = ab_Run ab_mt 185 110 ls (.int (-1) :: st) w := E_push (n := 1) rfl
theorem e_185_110 {ls : ab_L} {st : List Value} {w : ab_W} {x y : Int32} : ab_Run ab_mt 185 110 ls (.int y :: .int x :: st) w = if x = y then ab_Run ab_mt 185 121 ls st w else ab_Run ab_mt 185 113 ls st w := E_ic_eq rfl
theorem e_185_113 {ls : ab_L} {st : List Value} {w : ab_W} (h : ab_isL (ls 10) = true) (h2 : (ls 11).isNone = true) : ab_Run ab_mt 185 113 ls st w = ab_Run ab_mt 185 115 ls (ab_gv (ls 10) :: st) w := E_loadl (n := 2) rfl h h2
theorem e_185_115 {ls : ab_L} {st : List Value} {w : ab_W} (h : ab_isL (ls 7) = true) (h2 : (ls 8).isNone = true) : ab_Run ab_mt 185 115 ls st w = ab_Run ab_mt 185 117 ls (ab_gv (ls 7) :: st) w := E_loadl (n := 2) rfl h h2
theorem e_185_117 {ls : ab_L} {st : List Value} {w : ab_W} {x y : Int64} : ab_Run ab_mt 185 117 ls (.long y :: .long x :: st) w = ab_Run ab_mt 185 118 ls (.int (lg_cmp x y) :: st) w := E_lcmp rfl
theorem e_185_118 {ls : ab_L} {st : List Value} {w : ab_W} {x : Int32} : ab_Run ab_mt 185 118 ls (.int x :: st) w = if 0 ≤ x then ab_Run ab_mt 185 129 ls st w else ab_Run ab_mt 185 121 ls st w := E_if_ge rfl
theorem e_185_121 {ls : ab_L} {st : List Value} {w : ab_W} (h : ab_isI (ls 9) = true) : ab_Run ab_mt 185 121 ls st w = ab_Run ab_mt 185 123 ls (ab_gv (ls 9) :: st) w := E_loadi (n := 2) rfl h
theorem e_185_123 {ls : ab_L} {st : List Value} {w : ab_W} {x : Int32} : ab_Run ab_mt 185 123 ls (.int x :: st) w = ab_Run ab_mt 185 125 (ab_l1 ls 6 (.int x)) st w := E_stori (n := 2) rfl
theorem e_185_125 {ls : ab_L} {st : List Value} {w : ab_W} (h : ab_isL (ls 10) = true) (h2 : (ls 11).isNone = true) : ab_Run ab_mt 185 125 ls st w = ab_Run ab_mt 185 127 ls (ab_gv (ls 10) :: st) w := E_loadl (n := 2) rfl h h2
theorem e_185_127 {ls : ab_L} {st : List Value} {w : ab_W} {x : Int64} : ab_Run ab_mt 185 127 ls (.long x :: st) w = ab_Run ab_mt 185 129 (ab_l2 ls 7 (.long x)) st w := E_storl (n := 2) rfl
theorem e_185_129 {ls : ab_L} {st : List Value} {w : ab_W} (h : ab_isI (ls 9) = true) : ab_Run ab_mt 185 129 ls st w = ab_Run ab_mt 185 132 (ab_l1 ls 9 (.int (ab_gi (ls 9) + (nI 1)))) st w := E_iinc rfl h
theorem e_185_132 {ls : ab_L} {st : List Value} {w : ab_W} : ab_Run ab_mt 185 132 ls st w = ab_Run ab_mt 185 68 ls st w := E_goto rfl
theorem e_185_135 {ls : ab_L} {st : List Value} {w : ab_W} (h : ab_isI (ls 6) = true) : ab_Run ab_mt 185 135 ls st w = ab_Run ab_mt 185 137 ls (ab_gv (ls 6) :: st) w := E_loadi (n := 2) rfl h
theorem e_185_137 {ls : ab_L} {w : ab_W} {x : Int32} : ab_Run ab_mt 185 137 ls [.int x] w = some (.inl (some (.int x)), w) := E_reti rfl
theorem rv_185 {σ : ab_S} {t : Nat} {x0 : Int32} {x1 : Int64} : ab_recv ab_mt 185 [.ref t, .int x0, .long x1] σ = ab_isO 7 (σ t) := rfl
theorem x_185_38 {ls : ab_L} {rest : List Value} {E : Nat} {w : ab_W} : ab_aft 122 185 38 ls rest (some (.inr E, w)) = some (.inr E, w) := ab_aft_x rfl rfl (by unfold ab_hand; rfl)
theorem e_186_0 {ls : ab_L} {st : List Value} {w : ab_W} (h : ab_isR (ls 0) = true) : ab_Run ab_mt 186 0 ls st w = ab_Run ab_mt 186 1 ls (ab_gv (ls 0) :: st) w := E_loadr (n := 1) rfl h
theorem e_186_1 {ls : ab_L} {st : List Value} {w : ab_W} (h : ab_isR (ls 0) = true) : ab_Run ab_mt 186 1 ls st w = ab_Run ab_mt 186 2 ls (ab_gv (ls 0) :: st) w := E_loadr (n := 1) rfl h
theorem e_186_2 {ls : ab_L} {st : List Value} {w : ab_W} (h : ab_isI (ls 1) = true) : ab_Run ab_mt 186 2 ls st w = ab_Run ab_mt 186 3 ls (ab_gv (ls 1) :: st) w := E_loadi (n := 1) rfl h
theorem e_186_3 {ls : ab_L} {st : List Value} {w : ab_W} {v0 v1 : Value} (h1 : ab_recv ab_mt 112 [v0, v1] w.2 = true) (h8 : ab_w8 st = true) : ab_Run ab_mt 186 3 ls (v1 :: v0 :: st) w = ab_aft 112 186 3 ls st (ab_Cl 112 [v0, v1] w) := E_call2 rfl h1 h8
theorem e_186_6 {ls : ab_L} {st : List Value} {w : ab_W} {x : Int32} : ab_Run ab_mt 186 6 ls (.int x :: st) w = if x = 0 then ab_Run ab_mt 186 9 ls st w else ab_Run ab_mt 186 13 ls st w := E_if_ne rfl
theorem e_186_9 {ls : ab_L} {st : List Value} {w : ab_W} : ab_Run ab_mt 186 9 ls st w = ab_Run ab_mt 186 10 ls (.int (nI 1) :: st) w := E_push (n := 1) rfl
theorem e_186_10 {ls : ab_L} {st : List Value} {w : ab_W} : ab_Run ab_mt 186 10 ls st w = ab_Run ab_mt 186 25 ls st w := E_goto rfl
theorem e_186_13 {ls : ab_L} {st : List Value} {w : ab_W} (h : ab_isL (ls 2) = true) (h2 : (ls 3).isNone = true) : ab_Run ab_mt 186 13 ls st w = ab_Run ab_mt 186 14 ls (ab_gv (ls 2) :: st) w := E_loadl (n := 1) rfl h h2
theorem e_186_14 {ls : ab_L} {st : List Value} {w : ab_W} {v0 : Value} (h1 : ab_recv ab_mt 184 [v0] w.2 = true) (h8 : ab_w8 st = true) : ab_Run ab_mt 186 14 ls (v0 :: st) w = ab_aft 184 186 14 ls st (ab_Cl 184 [v0] w) := E_call1 rfl h1 h8
theorem e_186_17 {ls : ab_L} {st : List Value} {w : ab_W} {x : Int32} : ab_Run ab_mt 186 17 ls (.int x :: st) w = if x = 0 then ab_Run ab_mt 186 24 ls st w else ab_Run ab_mt 186 20 ls st w := E_if_eq rfl
theorem e_186_20 {ls : ab_L} {st : List Value} {w : ab_W} : ab_Run ab_mt 186 20 ls st w = ab_Run ab_mt 186 21 ls (.int (nI 0) :: st) w := E_push (n := 1) rfl
theorem e_186_21 {ls : ab_L} {st : List Value} {w : ab_W} : ab_Run ab_mt 186 21 ls st w = ab_Run ab_mt 186 25 ls st w := E_goto rfl
theorem e_186_24 {ls : ab_L} {st : List Value} {w : ab_W} : ab_Run ab_mt 186 24 ls st w = ab_Run ab_mt 186 25 ls (.int (nI 2) :: st) w := E_push (n := 1) rfl
theorem e_186_25 {ls : ab_L} {st : List Value} {w : ab_W} {a : Nat} {x : Int32} (h : ab_isF 7 0 (w.2 a) = true) : ab_Run ab_mt 186 25 ls (.int x :: .ref a :: st) w = ab_Run ab_mt 186 28 ls st (w.1, ab_up w.2 a (ab_sf 0 (.int x) (w.2 a))) := E_put rfl h rfl
theorem e_186_28 {ls : ab_L} {st : List Value} {w : ab_W} (h : ab_isR (ls 0) = true) : ab_Run ab_mt 186 28 ls st w = ab_Run ab_mt 186 29 ls (ab_gv (ls 0) :: st) w := E_loadr (n := 1) rfl h
theorem e_186_29 {ls : ab_L} {st : List Value} {w : ab_W} {a : Nat} (h : ab_isF 7 0 (w.2 a) = true) : ab_Run ab_mt 186 29 ls (.ref a :: st) w = ab_Run ab_mt 186 32 ls (ab_fv 0 (w.2 a) :: st) w := E_get rfl h
theorem e_186_32 {ls : ab_L} {st : List Value} {w : ab_W} {x : Int32} : ab_Run ab_mt 186 32 ls (.int x :: st) w = if x ≤ 0 then ab_Run ab_mt 186 37 ls st w else ab_Run ab_mt 186 35 ls st w := E_if_le rfl
theorem e_186_35 {ls : ab_L} {st : List Value} {w : ab_W} : ab_Run ab_mt 186 35 ls st w = ab_Run ab_mt 186 36 ls (.int (nI 0) :: st) w := E_push (n := 1) rfl
theorem e_186_36 {ls : ab_L} {w : ab_W} {x : Int32} : ab_Run ab_mt 186 36 ls [.int x] w = some (.inl (some (.int x)), w) := E_reti rfl
theorem e_186_37 {ls : ab_L} {st : List Value} {w : ab_W} (h : ab_isR (ls 0) = true) : ab_Run ab_mt 186 37 ls st w = ab_Run ab_mt 186 38 ls (ab_gv (ls 0) :: st) w := E_loadr (n := 1) rfl h
theorem e_186_38 {ls : ab_L} {st : List Value} {w : ab_W} {v0 : Value} (h1 : ab_recv ab_mt 122 [v0] w.2 = true) (h8 : ab_w8 st = true) : ab_Run ab_mt 186 38 ls (v0 :: st) w = ab_aft 122 186 38 ls st (ab_Cl 122 [v0] w) := E_call1 rfl h1 h8
theorem e_186_41 {ls : ab_L} {st : List Value} {w : ab_W} (h : ab_isR (ls 0) = true) : ab_Run ab_mt 186 41 ls st w = ab_Run ab_mt 186 42 ls (ab_gv (ls 0) :: st) w := E_loadr (n := 1) rfl h
theorem e_186_42 {ls : ab_L} {st : List Value} {w : ab_W} (h : ab_isI (ls 1) = true) : ab_Run ab_mt 186 42 ls st w = ab_Run ab_mt 186 43 ls (ab_gv (ls 1) :: st) w := E_loadi (n := 1) rfl h
theorem e_186_43 {ls : ab_L} {st : List Value} {w : ab_W} {v0 v1 : Value} (h1 : ab_recv ab_mt 113 [v0, v1] w.2 = true) (h8 : ab_w8 st = true) : ab_Run ab_mt 186 43 ls (v1 :: v0 :: st) w = ab_aft 113 186 43 ls st (ab_Cl 113 [v0, v1] w) := E_call2 rfl h1 h8
theorem e_186_46 {ls : ab_L} {st : List Value} {w : ab_W} {x : Int32} : ab_Run ab_mt 186 46 ls (.int x :: st) w = ab_Run ab_mt 186 48 (ab_l1 ls 4 (.int x)) st w := E_stori (n := 2) rfl
theorem e_186_48 {ls : ab_L} {st : List Value} {w : ab_W} (h : ab_isR (ls 0) = true) : ab_Run ab_mt 186 48 ls st w = ab_Run ab_mt 186 49 ls (ab_gv (ls 0) :: st) w := E_loadr (n := 1) rfl h
theorem e_186_49 {ls : ab_L} {st : List Value} {w : ab_W} {a : Nat} (h : ab_isF 7 17 (w.2 a) = true) : ab_Run ab_mt 186 49 ls (.ref a :: st) w = ab_Run ab_mt 186 52 ls (ab_fv 17 (w.2 a) :: st) w := E_get rfl h
theorem e_186_52 {ls : ab_L} {st : List Value} {w : ab_W} (h : ab_isR (ls 0) = true) : ab_Run ab_mt 186 52 ls st w = ab_Run ab_mt 186 53 ls (ab_gv (ls 0) :: st) w := E_loadr (n := 1) rfl h
theorem e_186_53 {ls : ab_L} {st : List Value} {w : ab_W} (h : ab_isI (ls 1) = true) : ab_Run ab_mt 186 53 ls st w = ab_Run ab_mt 186 54 ls (ab_gv (ls 1) :: st) w := E_loadi (n := 1) rfl h
theorem e_186_54 {ls : ab_L} {st : List Value} {w : ab_W} (h : ab_isI (ls 4) = true) : ab_Run ab_mt 186 54 ls st w = ab_Run ab_mt 186 56 ls (ab_gv (ls 4) :: st) w := E_loadi (n := 2) rfl h
theorem e_186_56 {ls : ab_L} {st : List Value} {w : ab_W} (h : ab_isR (ls 0) = true) : ab_Run ab_mt 186 56 ls st w = ab_Run ab_mt 186 57 ls (ab_gv (ls 0) :: st) w := E_loadr (n := 1) rfl h
theorem e_186_57 {ls : ab_L} {st : List Value} {w : ab_W} (h : ab_isI (ls 1) = true) : ab_Run ab_mt 186 57 ls st w = ab_Run ab_mt 186 58 ls (ab_gv (ls 1) :: st) w := E_loadi (n := 1) rfl h
theorem e_186_58 {ls : ab_L} {st : List Value} {w : ab_W} : ab_Run ab_mt 186 58 ls st w = ab_Run ab_mt 186 59 ls (.int (nI 0) :: st) w := E_push (n := 1) rfl
theorem e_186_59 {ls : ab_L} {st : List Value} {w : ab_W} {v0 v1 v2 : Value} (h1 : ab_recv ab_mt 109 [v0, v1, v2] w.2 = true) (h8 : ab_w8 st = true) : ab_Run ab_mt 186 59 ls (v2 :: v1 :: v0 :: st) w = ab_aft 109 186 59 ls st (ab_Cl 109 [v0, v1, v2] w) := E_call3 rfl h1 h8
theorem e_186_62 {ls : ab_L} {st : List Value} {w : ab_W} {v0 v1 v2 v3 : Value} (h1 : ab_recv ab_mt 121 [v0, v1, v2, v3] w.2 = true) (h8 : ab_w8 st = true) : ab_Run ab_mt 186 62 ls (v3 :: v2 :: v1 :: v0 :: st) w = ab_aft 121 186 62 ls st (ab_Cl 121 [v0, v1, v2, v3] w) := E_call4 rfl h1 h8
theorem e_186_65 {ls : ab_L} {st : List Value} {w : ab_W} {x y : Int64} : ab_Run ab_mt 186 65 ls (.long y :: .long x :: st) w = ab_Run ab_mt 186 66 ls (.long (x - y) :: st) w := E_lb (f := fun x y => x - y) rfl
theorem e_186_66 {ls : ab_L} {st : List Value} {w : ab_W} {x : Int64} : ab_Run ab_mt 186 66 ls (.long x :: st) w = ab_Run ab_mt 186 68 (ab_l2 ls 5 (.long x)) st w := E_storl (n := 2) rfl
theorem e_186_68 {ls : ab_L} {st : List Value} {w : ab_W} : ab_Run ab_mt 186 68 ls st w = ab_Run ab_mt 186 69 ls (.int (-1) :: st) w := E_push (n := 1) rfl
theorem e_186_69 {ls : ab_L} {st : List Value} {w : ab_W} {x : Int32} : ab_Run ab_mt 186 69 ls (.int x :: st) w = ab_Run ab_mt 186 71 (ab_l1 ls 7 (.int x)) st w := E_stori (n := 2) rfl
theorem e_186_71 {ls : ab_L} {st : List Value} {w : ab_W} : ab_Run ab_mt 186 71 ls st w = ab_Run ab_mt 186 73 ls (.int (nI 60000) :: st) w := E_push (n := 2) rfl
theorem e_186_73 {ls : ab_L} {st : List Value} {w : ab_W} {x : Int32} : ab_Run ab_mt 186 73 ls (.int x :: st) w = ab_Run ab_mt 186 75 (ab_l1 ls 8 (.int x)) st w := E_stori (n := 2) rfl
theorem e_186_75 {ls : ab_L} {st : List Value} {w : ab_W} (h : ab_isI (ls 8) = true) : ab_Run ab_mt 186 75 ls st w = ab_Run ab_mt 186 77 ls (ab_gv (ls 8) :: st) w := E_loadi (n := 2) rfl h
theorem e_186_77 {ls : ab_L} {st : List Value} {w : ab_W} : ab_Run ab_mt 186 77 ls st w = ab_Run ab_mt 186 79 ls (.int (nI 100) :: st) w := E_push (n := 2) rfl
theorem e_186_79 {ls : ab_L} {st : List Value} {w : ab_W} {x y : Int32} : ab_Run ab_mt 186 79 ls (.int y :: .int x :: st) w = if x < y then ab_Run ab_mt 186 107 ls st w else ab_Run ab_mt 186 82 ls st w := E_ic_lt rfl
theorem e_186_82 {ls : ab_L} {st : List Value} {w : ab_W} (h : ab_isL (ls 5) = true) (h2 : (ls 6).isNone = true) : ab_Run ab_mt 186 82 ls st w = ab_Run ab_mt 186 84 ls (ab_gv (ls 5) :: st) w := E_loadl (n := 2) rfl h h2
theorem e_186_84 {ls : ab_L} {st : List Value} {w : ab_W} : ab_Run ab_mt 186 84 ls st w = ab_Run ab_mt 186 87 ls (.long (lN 1000) :: st) w := E_push (n := 3) rfl
theorem e_186_87 {ls : ab_L} {st : List Value} {w : ab_W} (h : ab_isI (ls 8) = true) : ab_Run ab_mt 186 87 ls st w = ab_Run ab_mt 186 89 ls (ab_gv (ls 8) :: st) w := E_loadi (n := 2) rfl h
theorem e_186_89 {ls : ab_L} {st : List Value} {w : ab_W} {x : Int32} : ab_Run ab_mt 186 89 ls (.int x :: st) w = ab_Run ab_mt 186 90 ls (.long x.toInt64 :: st) w := E_i2l rfl
theorem e_186_90 {ls : ab_L} {st : List Value} {w : ab_W} {x y : Int64} : ab_Run ab_mt 186 90 ls (.long y :: .long x :: st) w = ab_Run ab_mt 186 91 ls (.long (x * y) :: st) w := E_lb (f := fun x y => x * y) rfl
theorem e_186_91 {ls : ab_L} {st : List Value} {w : ab_W} {x y : Int64} : ab_Run ab_mt 186 91 ls (.long y :: .long x :: st) w = ab_Run ab_mt 186 92 ls (.long (x + y) :: st) w := E_lb (f := fun x y => x + y) rfl
theorem e_186_92 {ls : ab_L} {st : List Value} {w : ab_W} (h : ab_isL (ls 2) = true) (h2 : (ls 3).isNone = true) : ab_Run ab_mt 186 92 ls st w = ab_Run ab_mt 186 93 ls (ab_gv (ls 2) :: st) w := E_loadl (n := 1) rfl h h2
theorem e_186_93 {ls : ab_L} {st : List Value} {w : ab_W} {x y : Int64} : ab_Run ab_mt 186 93 ls (.long y :: .long x :: st) w = ab_Run ab_mt 186 94 ls (.int (lg_cmp x y) :: st) w := E_lcmp rfl
theorem e_186_94 {ls : ab_L} {st : List Value} {w : ab_W} {x : Int32} : ab_Run ab_mt 186 94 ls (.int x :: st) w = if x < 0 then ab_Run ab_mt 186 107 ls st w else ab_Run ab_mt 186 97 ls st w := E_if_lt rfl
theorem e_186_97 {ls : ab_L} {st : List Value} {w : ab_W} (h : ab_isI (ls 8) = true) : ab_Run ab_mt 186 97 ls st w = ab_Run ab_mt 186 99 ls (ab_gv (ls 8) :: st) w := E_loadi (n := 2) rfl h
theorem e_186_99 {ls : ab_L} {st : List Value} {w : ab_W} {x : Int32} : ab_Run ab_mt 186 99 ls (.int x :: st) w = ab_Run ab_mt 186 101 (ab_l1 ls 7 (.int x)) st w := E_stori (n := 2) rfl
theorem e_186_101 {ls : ab_L} {st : List Value} {w : ab_W} (h : ab_isI (ls 8) = true) : ab_Run ab_mt 186 101 ls st w = ab_Run ab_mt 186 104 (ab_l1 ls 8 (.int (ab_gi (ls 8) + (-1)))) st w := E_iinc rfl h
theorem e_186_104 {ls : ab_L} {st : List Value} {w : ab_W} : ab_Run ab_mt 186 104 ls st w = ab_Run ab_mt 186 75 ls st w := E_goto rfl
theorem e_186_107 {ls : ab_L} {st : List Value} {w : ab_W} (h : ab_isI (ls 7) = true) : ab_Run ab_mt 186 107 ls st w = ab_Run ab_mt 186 109 ls (ab_gv (ls 7) :: st) w := E_loadi (n := 2) rfl h
theorem e_186_109 {ls : ab_L} {w : ab_W} {x : Int32} : ab_Run ab_mt 186 109 ls [.int x] w = some (.inl (some (.int x)), w) := E_reti rfl
theorem rv_186 {σ : ab_S} {t : Nat} {x0 : Int32} {x1 : Int64} : ab_recv ab_mt 186 [.ref t, .int x0, .long x1] σ = ab_isO 7 (σ t) := rfl
theorem x_186_38 {ls : ab_L} {rest : List Value} {E : Nat} {w : ab_W} : ab_aft 122 186 38 ls rest (some (.inr E, w)) = some (.inr E, w) := ab_aft_x rfl rfl (by unfold ab_hand; rfl)
theorem x_186_62 {ls : ab_L} {rest : List Value} {E : Nat} {w : ab_W} : ab_aft 121 186 62 ls rest (some (.inr E, w)) = some (.inr E, w) := ab_aft_x rfl rfl (by unfold ab_hand; rfl)
