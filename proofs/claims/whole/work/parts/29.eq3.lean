/-! the equations of runs, an instruction each: printed by wip/whole/gen_step.py -/
theorem e_187_0 {ls : ab_L} {st : List Value} {w : ab_W} (h : ab_isR (ls 0) = true) : ab_Run ab_mt 187 0 ls st w = ab_Run ab_mt 187 1 ls (ab_gv (ls 0) :: st) w := E_loadr (n := 1) rfl h
theorem e_187_1 {ls : ab_L} {st : List Value} {w : ab_W} (h : ab_isR (ls 0) = true) : ab_Run ab_mt 187 1 ls st w = ab_Run ab_mt 187 2 ls (ab_gv (ls 0) :: st) w := E_loadr (n := 1) rfl h
theorem e_187_2 {ls : ab_L} {st : List Value} {w : ab_W} (h : ab_isI (ls 1) = true) : ab_Run ab_mt 187 2 ls st w = ab_Run ab_mt 187 3 ls (ab_gv (ls 1) :: st) w := E_loadi (n := 1) rfl h
theorem e_187_3 {ls : ab_L} {st : List Value} {w : ab_W} {v0 v1 : Value} (h1 : ab_recv ab_mt 115 [v0, v1] w.2 = true) (h8 : ab_w8 st = true) : ab_Run ab_mt 187 3 ls (v1 :: v0 :: st) w = ab_aft 115 187 3 ls st (ab_Cl 115 [v0, v1] w) := E_call2 rfl h1 h8
theorem e_187_6 {ls : ab_L} {st : List Value} {w : ab_W} {x : Int32} : ab_Run ab_mt 187 6 ls (.int x :: st) w = if x = 0 then ab_Run ab_mt 187 9 ls st w else ab_Run ab_mt 187 13 ls st w := E_if_ne rfl
theorem e_187_9 {ls : ab_L} {st : List Value} {w : ab_W} : ab_Run ab_mt 187 9 ls st w = ab_Run ab_mt 187 10 ls (.int (nI 1) :: st) w := E_push (n := 1) rfl
theorem e_187_10 {ls : ab_L} {st : List Value} {w : ab_W} : ab_Run ab_mt 187 10 ls st w = ab_Run ab_mt 187 26 ls st w := E_goto rfl
theorem e_187_13 {ls : ab_L} {st : List Value} {w : ab_W} (h : ab_isI (ls 2) = true) : ab_Run ab_mt 187 13 ls st w = ab_Run ab_mt 187 14 ls (ab_gv (ls 2) :: st) w := E_loadi (n := 1) rfl h
theorem e_187_14 {ls : ab_L} {st : List Value} {w : ab_W} (h : ab_isI (ls 3) = true) : ab_Run ab_mt 187 14 ls st w = ab_Run ab_mt 187 15 ls (ab_gv (ls 3) :: st) w := E_loadi (n := 1) rfl h
theorem e_187_15 {ls : ab_L} {st : List Value} {w : ab_W} {v0 v1 : Value} (h1 : ab_recv ab_mt 135 [v0, v1] w.2 = true) (h8 : ab_w8 st = true) : ab_Run ab_mt 187 15 ls (v1 :: v0 :: st) w = ab_aft 135 187 15 ls st (ab_Cl 135 [v0, v1] w) := E_call2 rfl h1 h8
theorem e_187_18 {ls : ab_L} {st : List Value} {w : ab_W} {x : Int32} : ab_Run ab_mt 187 18 ls (.int x :: st) w = if x = 0 then ab_Run ab_mt 187 25 ls st w else ab_Run ab_mt 187 21 ls st w := E_if_eq rfl
theorem e_187_21 {ls : ab_L} {st : List Value} {w : ab_W} : ab_Run ab_mt 187 21 ls st w = ab_Run ab_mt 187 22 ls (.int (nI 0) :: st) w := E_push (n := 1) rfl
theorem e_187_22 {ls : ab_L} {st : List Value} {w : ab_W} : ab_Run ab_mt 187 22 ls st w = ab_Run ab_mt 187 26 ls st w := E_goto rfl
theorem e_187_25 {ls : ab_L} {st : List Value} {w : ab_W} : ab_Run ab_mt 187 25 ls st w = ab_Run ab_mt 187 26 ls (.int (nI 2) :: st) w := E_push (n := 1) rfl
theorem e_187_26 {ls : ab_L} {st : List Value} {w : ab_W} {a : Nat} {x : Int32} (h : ab_isF 7 0 (w.2 a) = true) : ab_Run ab_mt 187 26 ls (.int x :: .ref a :: st) w = ab_Run ab_mt 187 29 ls st (w.1, ab_up w.2 a (ab_sf 0 (.int x) (w.2 a))) := E_put rfl h rfl
theorem e_187_29 {ls : ab_L} {st : List Value} {w : ab_W} (h : ab_isR (ls 0) = true) : ab_Run ab_mt 187 29 ls st w = ab_Run ab_mt 187 30 ls (ab_gv (ls 0) :: st) w := E_loadr (n := 1) rfl h
theorem e_187_30 {ls : ab_L} {st : List Value} {w : ab_W} {a : Nat} (h : ab_isF 7 0 (w.2 a) = true) : ab_Run ab_mt 187 30 ls (.ref a :: st) w = ab_Run ab_mt 187 33 ls (ab_fv 0 (w.2 a) :: st) w := E_get rfl h
theorem e_187_33 {ls : ab_L} {st : List Value} {w : ab_W} {x : Int32} : ab_Run ab_mt 187 33 ls (.int x :: st) w = if x ≤ 0 then ab_Run ab_mt 187 38 ls st w else ab_Run ab_mt 187 36 ls st w := E_if_le rfl
theorem e_187_36 {ls : ab_L} {st : List Value} {w : ab_W} : ab_Run ab_mt 187 36 ls st w = ab_Run ab_mt 187 37 ls (.long (lN 0) :: st) w := E_push (n := 1) rfl
theorem e_187_37 {ls : ab_L} {w : ab_W} {x : Int64} : ab_Run ab_mt 187 37 ls [.long x] w = some (.inl (some (.long x)), w) := E_retl rfl
theorem e_187_38 {ls : ab_L} {st : List Value} {w : ab_W} (h : ab_isR (ls 0) = true) : ab_Run ab_mt 187 38 ls st w = ab_Run ab_mt 187 39 ls (ab_gv (ls 0) :: st) w := E_loadr (n := 1) rfl h
theorem e_187_39 {ls : ab_L} {st : List Value} {w : ab_W} (h : ab_isR (ls 0) = true) : ab_Run ab_mt 187 39 ls st w = ab_Run ab_mt 187 40 ls (ab_gv (ls 0) :: st) w := E_loadr (n := 1) rfl h
theorem e_187_40 {ls : ab_L} {st : List Value} {w : ab_W} {a : Nat} (h : ab_isF 7 1 (w.2 a) = true) : ab_Run ab_mt 187 40 ls (.ref a :: st) w = ab_Run ab_mt 187 43 ls (ab_fv 1 (w.2 a) :: st) w := E_get rfl h
theorem e_187_43 {ls : ab_L} {st : List Value} {w : ab_W} : ab_Run ab_mt 187 43 ls st w = ab_Run ab_mt 187 44 ls (.int (nI 0) :: st) w := E_push (n := 1) rfl
theorem e_187_44 {ls : ab_L} {st : List Value} {w : ab_W} (h : ab_isR (ls 0) = true) : ab_Run ab_mt 187 44 ls st w = ab_Run ab_mt 187 45 ls (ab_gv (ls 0) :: st) w := E_loadr (n := 1) rfl h
theorem e_187_45 {ls : ab_L} {st : List Value} {w : ab_W} {a : Nat} (h : ab_isF 7 2 (w.2 a) = true) : ab_Run ab_mt 187 45 ls (.ref a :: st) w = ab_Run ab_mt 187 48 ls (ab_fv 2 (w.2 a) :: st) w := E_get rfl h
theorem e_187_48 {ls : ab_L} {st : List Value} {w : ab_W} : ab_Run ab_mt 187 48 ls st w = ab_Run ab_mt 187 49 ls (.int (nI 0) :: st) w := E_push (n := 1) rfl
theorem e_187_49 {ls : ab_L} {st : List Value} {w : ab_W} {v0 v1 v2 v3 v4 : Value} (h1 : ab_recv ab_mt 116 [v0, v1, v2, v3, v4] w.2 = true) (h8 : ab_w8 st = true) : ab_Run ab_mt 187 49 ls (v4 :: v3 :: v2 :: v1 :: v0 :: st) w = ab_aft 116 187 49 ls st (ab_Cl 116 [v0, v1, v2, v3, v4] w) := E_call5 rfl h1 h8
theorem e_187_52 {ls : ab_L} {st : List Value} {w : ab_W} (h : ab_isR (ls 0) = true) : ab_Run ab_mt 187 52 ls st w = ab_Run ab_mt 187 53 ls (ab_gv (ls 0) :: st) w := E_loadr (n := 1) rfl h
theorem e_187_53 {ls : ab_L} {st : List Value} {w : ab_W} (h : ab_isI (ls 2) = true) : ab_Run ab_mt 187 53 ls st w = ab_Run ab_mt 187 54 ls (ab_gv (ls 2) :: st) w := E_loadi (n := 1) rfl h
theorem e_187_54 {ls : ab_L} {st : List Value} {w : ab_W} (h : ab_isI (ls 3) = true) : ab_Run ab_mt 187 54 ls st w = ab_Run ab_mt 187 55 ls (ab_gv (ls 3) :: st) w := E_loadi (n := 1) rfl h
theorem e_187_55 {ls : ab_L} {st : List Value} {w : ab_W} : ab_Run ab_mt 187 55 ls st w = ab_Run ab_mt 187 56 ls (.int (nI 1) :: st) w := E_push (n := 1) rfl
theorem e_187_56 {ls : ab_L} {st : List Value} {w : ab_W} {v0 v1 v2 v3 : Value} (h1 : ab_recv ab_mt 134 [v0, v1, v2, v3] w.2 = true) (h8 : ab_w8 st = true) : ab_Run ab_mt 187 56 ls (v3 :: v2 :: v1 :: v0 :: st) w = ab_aft 134 187 56 ls st (ab_Cl 134 [v0, v1, v2, v3] w) := E_call4 rfl h1 h8
theorem e_187_59 {ls : ab_L} {st : List Value} {w : ab_W} (h : ab_isR (ls 0) = true) : ab_Run ab_mt 187 59 ls st w = ab_Run ab_mt 187 60 ls (ab_gv (ls 0) :: st) w := E_loadr (n := 1) rfl h
theorem e_187_60 {ls : ab_L} {st : List Value} {w : ab_W} {v0 : Value} (h1 : ab_recv ab_mt 122 [v0] w.2 = true) (h8 : ab_w8 st = true) : ab_Run ab_mt 187 60 ls (v0 :: st) w = ab_aft 122 187 60 ls st (ab_Cl 122 [v0] w) := E_call1 rfl h1 h8
theorem e_187_63 {ls : ab_L} {st : List Value} {w : ab_W} (h : ab_isR (ls 0) = true) : ab_Run ab_mt 187 63 ls st w = ab_Run ab_mt 187 64 ls (ab_gv (ls 0) :: st) w := E_loadr (n := 1) rfl h
theorem e_187_64 {ls : ab_L} {st : List Value} {w : ab_W} {a : Nat} (h : ab_isF 7 15 (w.2 a) = true) : ab_Run ab_mt 187 64 ls (.ref a :: st) w = ab_Run ab_mt 187 67 ls (ab_fv 15 (w.2 a) :: st) w := E_get rfl h
theorem e_187_67 {ls : ab_L} {st : List Value} {w : ab_W} (h : ab_isI (ls 1) = true) : ab_Run ab_mt 187 67 ls st w = ab_Run ab_mt 187 68 ls (ab_gv (ls 1) :: st) w := E_loadi (n := 1) rfl h
theorem e_187_68 {ls : ab_L} {st : List Value} {w : ab_W} {a : Nat} {i : Int32} (h : ab_inL i (w.2 a) = true) : ab_Run ab_mt 187 68 ls (.int i :: .ref a :: st) w = ab_Run ab_mt 187 69 ls (.long (ab_aL i.toNatClampNeg (w.2 a)) :: st) w := E_lald rfl h
theorem e_187_69 {ls : ab_L} {st : List Value} {w : ab_W} {x : Int64} : ab_Run ab_mt 187 69 ls (.long x :: st) w = ab_Run ab_mt 187 71 (ab_l2 ls 4 (.long x)) st w := E_storl (n := 2) rfl
theorem e_187_71 {ls : ab_L} {st : List Value} {w : ab_W} (h : ab_isR (ls 0) = true) : ab_Run ab_mt 187 71 ls st w = ab_Run ab_mt 187 72 ls (ab_gv (ls 0) :: st) w := E_loadr (n := 1) rfl h
theorem e_187_72 {ls : ab_L} {st : List Value} {w : ab_W} (h : ab_isR (ls 0) = true) : ab_Run ab_mt 187 72 ls st w = ab_Run ab_mt 187 73 ls (ab_gv (ls 0) :: st) w := E_loadr (n := 1) rfl h
theorem e_187_73 {ls : ab_L} {st : List Value} {w : ab_W} {a : Nat} (h : ab_isF 7 2 (w.2 a) = true) : ab_Run ab_mt 187 73 ls (.ref a :: st) w = ab_Run ab_mt 187 76 ls (ab_fv 2 (w.2 a) :: st) w := E_get rfl h
theorem e_187_76 {ls : ab_L} {st : List Value} {w : ab_W} : ab_Run ab_mt 187 76 ls st w = ab_Run ab_mt 187 77 ls (.int (nI 0) :: st) w := E_push (n := 1) rfl
theorem e_187_77 {ls : ab_L} {st : List Value} {w : ab_W} (h : ab_isR (ls 0) = true) : ab_Run ab_mt 187 77 ls st w = ab_Run ab_mt 187 78 ls (ab_gv (ls 0) :: st) w := E_loadr (n := 1) rfl h
theorem e_187_78 {ls : ab_L} {st : List Value} {w : ab_W} {a : Nat} (h : ab_isF 7 1 (w.2 a) = true) : ab_Run ab_mt 187 78 ls (.ref a :: st) w = ab_Run ab_mt 187 81 ls (ab_fv 1 (w.2 a) :: st) w := E_get rfl h
theorem e_187_81 {ls : ab_L} {st : List Value} {w : ab_W} : ab_Run ab_mt 187 81 ls st w = ab_Run ab_mt 187 82 ls (.int (nI 0) :: st) w := E_push (n := 1) rfl
theorem e_187_82 {ls : ab_L} {st : List Value} {w : ab_W} {v0 v1 v2 v3 v4 : Value} (h1 : ab_recv ab_mt 116 [v0, v1, v2, v3, v4] w.2 = true) (h8 : ab_w8 st = true) : ab_Run ab_mt 187 82 ls (v4 :: v3 :: v2 :: v1 :: v0 :: st) w = ab_aft 116 187 82 ls st (ab_Cl 116 [v0, v1, v2, v3, v4] w) := E_call5 rfl h1 h8
theorem e_187_85 {ls : ab_L} {st : List Value} {w : ab_W} (h : ab_isL (ls 4) = true) (h2 : (ls 5).isNone = true) : ab_Run ab_mt 187 85 ls st w = ab_Run ab_mt 187 87 ls (ab_gv (ls 4) :: st) w := E_loadl (n := 2) rfl h h2
theorem e_187_87 {ls : ab_L} {w : ab_W} {x : Int64} : ab_Run ab_mt 187 87 ls [.long x] w = some (.inl (some (.long x)), w) := E_retl rfl
theorem rv_187 {σ : ab_S} {t : Nat} {x0 : Int32} {x1 : Int32} {x2 : Int32} : ab_recv ab_mt 187 [.ref t, .int x0, .int x1, .int x2] σ = ab_isO 7 (σ t) := rfl
theorem x_187_60 {ls : ab_L} {rest : List Value} {E : Nat} {w : ab_W} : ab_aft 122 187 60 ls rest (some (.inr E, w)) = some (.inr E, w) := ab_aft_x rfl rfl (by unfold ab_hand; rfl)
theorem e_188_0 {ls : ab_L} {st : List Value} {w : ab_W} (h : ab_isR (ls 0) = true) : ab_Run ab_mt 188 0 ls st w = ab_Run ab_mt 188 1 ls (ab_gv (ls 0) :: st) w := E_loadr (n := 1) rfl h
theorem e_188_1 {ls : ab_L} {st : List Value} {w : ab_W} {v0 : Value} (h1 : ab_recv ab_mt 108 [v0] w.2 = true) (h8 : ab_w8 st = true) : ab_Run ab_mt 188 1 ls (v0 :: st) w = ab_aft 108 188 1 ls st (ab_Cl 108 [v0] w) := E_call1 rfl h1 h8
theorem e_188_4 {ls : ab_L} {st : List Value} {w : ab_W} {x : Int32} : ab_Run ab_mt 188 4 ls (.int x :: st) w = if x = 0 then ab_Run ab_mt 188 7 ls st w else ab_Run ab_mt 188 11 ls st w := E_if_ne rfl
theorem e_188_7 {ls : ab_L} {st : List Value} {w : ab_W} : ab_Run ab_mt 188 7 ls st w = ab_Run ab_mt 188 8 ls (.double FP.dconst0 :: st) w := E_push (n := 1) rfl
theorem e_188_8 {ls : ab_L} {st : List Value} {w : ab_W} : ab_Run ab_mt 188 8 ls st w = ab_Run ab_mt 188 26 ls st w := E_goto rfl
theorem e_188_11 {ls : ab_L} {st : List Value} {w : ab_W} : ab_Run ab_mt 188 11 ls st w = ab_Run ab_mt 188 14 ls (.double 4723321873536909312 :: st) w := E_push (n := 3) rfl
theorem e_188_14 {ls : ab_L} {st : List Value} {w : ab_W} (h : ab_isR (ls 0) = true) : ab_Run ab_mt 188 14 ls st w = ab_Run ab_mt 188 15 ls (ab_gv (ls 0) :: st) w := E_loadr (n := 1) rfl h
theorem e_188_15 {ls : ab_L} {st : List Value} {w : ab_W} {v0 : Value} (h1 : ab_recv ab_mt 114 [v0] w.2 = true) (h8 : ab_w8 st = true) : ab_Run ab_mt 188 15 ls (v0 :: st) w = ab_aft 114 188 15 ls st (ab_Cl 114 [v0] w) := E_call1 rfl h1 h8
theorem e_188_18 {ls : ab_L} {st : List Value} {w : ab_W} {x : Int32} : ab_Run ab_mt 188 18 ls (.int x :: st) w = ab_Run ab_mt 188 19 ls (.double (FP.i2d x) :: st) w := E_i2d rfl
theorem e_188_19 {ls : ab_L} {st : List Value} {w : ab_W} {x y : UInt64} (h : ab_n64 (FP.dmul x y) = true) : ab_Run ab_mt 188 19 ls (.double y :: .double x :: st) w = ab_Run ab_mt 188 20 ls (.double (FP.dmul x y) :: st) w := E_db rfl h
theorem e_188_20 {ls : ab_L} {st : List Value} {w : ab_W} (h : ab_isR (ls 0) = true) : ab_Run ab_mt 188 20 ls st w = ab_Run ab_mt 188 21 ls (ab_gv (ls 0) :: st) w := E_loadr (n := 1) rfl h
theorem e_188_21 {ls : ab_L} {st : List Value} {w : ab_W} {a : Nat} (h : ab_isF 7 17 (w.2 a) = true) : ab_Run ab_mt 188 21 ls (.ref a :: st) w = ab_Run ab_mt 188 24 ls (ab_fv 17 (w.2 a) :: st) w := E_get rfl h
theorem e_188_24 {ls : ab_L} {st : List Value} {w : ab_W} {x : Int64} : ab_Run ab_mt 188 24 ls (.long x :: st) w = ab_Run ab_mt 188 25 ls (.double (FP.l2d x) :: st) w := E_l2d rfl
theorem e_188_25 {ls : ab_L} {st : List Value} {w : ab_W} {x y : UInt64} (h : ab_n64 (FP.ddiv x y) = true) : ab_Run ab_mt 188 25 ls (.double y :: .double x :: st) w = ab_Run ab_mt 188 26 ls (.double (FP.ddiv x y) :: st) w := E_db rfl h
theorem e_188_26 {ls : ab_L} {w : ab_W} {x : UInt64} : ab_Run ab_mt 188 26 ls [.double x] w = some (.inl (some (.double x)), w) := E_retd rfl
theorem rv_188 {σ : ab_S} {t : Nat} : ab_recv ab_mt 188 [.ref t] σ = ab_isO 7 (σ t) := rfl
theorem e_189_0 {ls : ab_L} {st : List Value} {w : ab_W} (h : ab_isR (ls 0) = true) : ab_Run ab_mt 189 0 ls st w = ab_Run ab_mt 189 1 ls (ab_gv (ls 0) :: st) w := E_loadr (n := 1) rfl h
theorem e_189_1 {ls : ab_L} {st : List Value} {w : ab_W} : ab_Run ab_mt 189 1 ls st w = ab_Run ab_mt 189 2 ls (.int (nI 0) :: st) w := E_push (n := 1) rfl
theorem e_189_2 {ls : ab_L} {st : List Value} {w : ab_W} {a : Nat} {x : Int32} (h : ab_isF 7 0 (w.2 a) = true) : ab_Run ab_mt 189 2 ls (.int x :: .ref a :: st) w = ab_Run ab_mt 189 5 ls st (w.1, ab_up w.2 a (ab_sf 0 (.int x) (w.2 a))) := E_put rfl h rfl
theorem e_189_5 {ls : ab_L} {st : List Value} {w : ab_W} (h : ab_isR (ls 0) = true) : ab_Run ab_mt 189 5 ls st w = ab_Run ab_mt 189 6 ls (ab_gv (ls 0) :: st) w := E_loadr (n := 1) rfl h
theorem e_189_6 {ls : ab_L} {st : List Value} {w : ab_W} {v0 : Value} (h1 : ab_recv ab_mt 122 [v0] w.2 = true) (h8 : ab_w8 st = true) : ab_Run ab_mt 189 6 ls (v0 :: st) w = ab_aft 122 189 6 ls st (ab_Cl 122 [v0] w) := E_call1 rfl h1 h8
theorem e_189_9 {ls : ab_L} {st : List Value} {w : ab_W} (h : ab_isR (ls 0) = true) : ab_Run ab_mt 189 9 ls st w = ab_Run ab_mt 189 10 ls (ab_gv (ls 0) :: st) w := E_loadr (n := 1) rfl h
theorem e_189_10 {ls : ab_L} {st : List Value} {w : ab_W} {v0 : Value} (h1 : ab_recv ab_mt 188 [v0] w.2 = true) (h8 : ab_w8 st = true) : ab_Run ab_mt 189 10 ls (v0 :: st) w = ab_aft 188 189 10 ls st (ab_Cl 188 [v0] w) := E_call1 rfl h1 h8
theorem e_189_13 {ls : ab_L} {w : ab_W} {x : UInt64} : ab_Run ab_mt 189 13 ls [.double x] w = some (.inl (some (.double x)), w) := E_retd rfl
theorem rv_189 {σ : ab_S} {t : Nat} : ab_recv ab_mt 189 [.ref t] σ = ab_isO 7 (σ t) := rfl
theorem x_189_6 {ls : ab_L} {rest : List Value} {E : Nat} {w : ab_W} : ab_aft 122 189 6 ls rest (some (.inr E, w)) = some (.inr E, w) := ab_aft_x rfl rfl (by unfold ab_hand; rfl)
theorem e_190_0 {ls : ab_L} {st : List Value} {w : ab_W} (h : ab_isR (ls 0) = true) : ab_Run ab_mt 190 0 ls st w = ab_Run ab_mt 190 1 ls (ab_gv (ls 0) :: st) w := E_loadr (n := 1) rfl h
theorem e_190_1 {ls : ab_L} {st : List Value} {w : ab_W} : ab_Run ab_mt 190 1 ls st w = ab_Run ab_mt 190 4 ls (.long (lN 31) :: st) w := E_push (n := 3) rfl
theorem e_190_4 {ls : ab_L} {st : List Value} {w : ab_W} (h : ab_isR (ls 0) = true) : ab_Run ab_mt 190 4 ls st w = ab_Run ab_mt 190 5 ls (ab_gv (ls 0) :: st) w := E_loadr (n := 1) rfl h
theorem e_190_5 {ls : ab_L} {st : List Value} {w : ab_W} {a : Nat} (h : ab_isF 7 23 (w.2 a) = true) : ab_Run ab_mt 190 5 ls (.ref a :: st) w = ab_Run ab_mt 190 8 ls (ab_fv 23 (w.2 a) :: st) w := E_get rfl h
theorem e_190_8 {ls : ab_L} {st : List Value} {w : ab_W} {x y : Int64} : ab_Run ab_mt 190 8 ls (.long y :: .long x :: st) w = ab_Run ab_mt 190 9 ls (.long (x * y) :: st) w := E_lb (f := fun x y => x * y) rfl
theorem e_190_9 {ls : ab_L} {st : List Value} {w : ab_W} (h : ab_isL (ls 1) = true) (h2 : (ls 2).isNone = true) : ab_Run ab_mt 190 9 ls st w = ab_Run ab_mt 190 10 ls (ab_gv (ls 1) :: st) w := E_loadl (n := 1) rfl h h2
theorem e_190_10 {ls : ab_L} {st : List Value} {w : ab_W} {x y : Int64} : ab_Run ab_mt 190 10 ls (.long y :: .long x :: st) w = ab_Run ab_mt 190 11 ls (.long (x + y) :: st) w := E_lb (f := fun x y => x + y) rfl
theorem e_190_11 {ls : ab_L} {st : List Value} {w : ab_W} {a : Nat} {x : Int64} (h : ab_isF 7 23 (w.2 a) = true) : ab_Run ab_mt 190 11 ls (.long x :: .ref a :: st) w = ab_Run ab_mt 190 14 ls st (w.1, ab_up w.2 a (ab_sf 23 (.long x) (w.2 a))) := E_put rfl h rfl
theorem e_190_14 {ls : ab_L} {w : ab_W} : ab_Run ab_mt 190 14 ls [] w = some (.inl none, w) := E_ret0 rfl
theorem rv_190 {σ : ab_S} {t : Nat} {x0 : Int64} : ab_recv ab_mt 190 [.ref t, .long x0] σ = ab_isO 7 (σ t) := rfl
theorem e_191_0 {ls : ab_L} {st : List Value} {w : ab_W} : ab_Run ab_mt 191 0 ls st w = ab_Run ab_mt 191 1 ls (.int (nI 0) :: st) w := E_push (n := 1) rfl
theorem e_191_1 {ls : ab_L} {st : List Value} {w : ab_W} {x : Int32} : ab_Run ab_mt 191 1 ls (.int x :: st) w = ab_Run ab_mt 191 2 (ab_l1 ls 1 (.int x)) st w := E_stori (n := 1) rfl
theorem e_191_2 {ls : ab_L} {st : List Value} {w : ab_W} (h : ab_isI (ls 1) = true) : ab_Run ab_mt 191 2 ls st w = ab_Run ab_mt 191 3 ls (ab_gv (ls 1) :: st) w := E_loadi (n := 1) rfl h
theorem e_191_3 {ls : ab_L} {st : List Value} {w : ab_W} : ab_Run ab_mt 191 3 ls st w = ab_Run ab_mt 191 5 ls (.int (nI 6) :: st) w := E_push (n := 2) rfl
theorem e_191_5 {ls : ab_L} {st : List Value} {w : ab_W} (h : ab_isR (ls 0) = true) : ab_Run ab_mt 191 5 ls st w = ab_Run ab_mt 191 6 ls (ab_gv (ls 0) :: st) w := E_loadr (n := 1) rfl h
theorem e_191_6 {ls : ab_L} {st : List Value} {w : ab_W} {v0 : Value} (h1 : ab_recv ab_mt 108 [v0] w.2 = true) (h8 : ab_w8 st = true) : ab_Run ab_mt 191 6 ls (v0 :: st) w = ab_aft 108 191 6 ls st (ab_Cl 108 [v0] w) := E_call1 rfl h1 h8
theorem e_191_9 {ls : ab_L} {st : List Value} {w : ab_W} {x y : Int32} : ab_Run ab_mt 191 9 ls (.int y :: .int x :: st) w = ab_Run ab_mt 191 10 ls (.int (x * y) :: st) w := E_ib (f := fun x y => x * y) rfl
theorem e_191_10 {ls : ab_L} {st : List Value} {w : ab_W} {x y : Int32} : ab_Run ab_mt 191 10 ls (.int y :: .int x :: st) w = if y ≤ x then ab_Run ab_mt 191 56 ls st w else ab_Run ab_mt 191 13 ls st w := E_ic_ge rfl
theorem e_191_13 {ls : ab_L} {st : List Value} {w : ab_W} (h : ab_isR (ls 0) = true) : ab_Run ab_mt 191 13 ls st w = ab_Run ab_mt 191 14 ls (ab_gv (ls 0) :: st) w := E_loadr (n := 1) rfl h
theorem e_191_14 {ls : ab_L} {st : List Value} {w : ab_W} (h : ab_isI (ls 1) = true) : ab_Run ab_mt 191 14 ls st w = ab_Run ab_mt 191 15 ls (ab_gv (ls 1) :: st) w := E_loadi (n := 1) rfl h
theorem e_191_15 {ls : ab_L} {st : List Value} {w : ab_W} : ab_Run ab_mt 191 15 ls st w = ab_Run ab_mt 191 17 ls (.int (nI 6) :: st) w := E_push (n := 2) rfl
theorem e_191_17 {ls : ab_L} {st : List Value} {w : ab_W} {x y : Int32} (h : ¬ y = 0) : ab_Run ab_mt 191 17 ls (.int y :: .int x :: st) w = ab_Run ab_mt 191 18 ls (.int (x - x / y * y) :: st) w := E_idv (f := fun x y => x - x / y * y) rfl h
theorem e_191_18 {ls : ab_L} {st : List Value} {w : ab_W} : ab_Run ab_mt 191 18 ls st w = ab_Run ab_mt 191 19 ls (.int (nI 5) :: st) w := E_push (n := 1) rfl
theorem e_191_19 {ls : ab_L} {st : List Value} {w : ab_W} {x y : Int32} : ab_Run ab_mt 191 19 ls (.int y :: .int x :: st) w = if x = y then ab_Run ab_mt 191 22 ls st w else ab_Run ab_mt 191 34 ls st w := E_ic_ne rfl
theorem e_191_22 {ls : ab_L} {st : List Value} {w : ab_W} (h : ab_isR (ls 0) = true) : ab_Run ab_mt 191 22 ls st w = ab_Run ab_mt 191 23 ls (ab_gv (ls 0) :: st) w := E_loadr (n := 1) rfl h
theorem e_191_23 {ls : ab_L} {st : List Value} {w : ab_W} (h : ab_isI (ls 1) = true) : ab_Run ab_mt 191 23 ls st w = ab_Run ab_mt 191 24 ls (ab_gv (ls 1) :: st) w := E_loadi (n := 1) rfl h
theorem e_191_24 {ls : ab_L} {st : List Value} {w : ab_W} : ab_Run ab_mt 191 24 ls st w = ab_Run ab_mt 191 26 ls (.int (nI 6) :: st) w := E_push (n := 2) rfl
theorem e_191_26 {ls : ab_L} {st : List Value} {w : ab_W} {x y : Int32} (h : ¬ y = 0) : ab_Run ab_mt 191 26 ls (.int y :: .int x :: st) w = ab_Run ab_mt 191 27 ls (.int (x / y) :: st) w := E_idv (f := fun x y => x / y) rfl h
theorem e_191_27 {ls : ab_L} {st : List Value} {w : ab_W} {v0 v1 : Value} (h1 : ab_recv ab_mt 113 [v0, v1] w.2 = true) (h8 : ab_w8 st = true) : ab_Run ab_mt 191 27 ls (v1 :: v0 :: st) w = ab_aft 113 191 27 ls st (ab_Cl 113 [v0, v1] w) := E_call2 rfl h1 h8
theorem e_191_30 {ls : ab_L} {st : List Value} {w : ab_W} {x : Int32} : ab_Run ab_mt 191 30 ls (.int x :: st) w = ab_Run ab_mt 191 31 ls (.long x.toInt64 :: st) w := E_i2l rfl
theorem e_191_31 {ls : ab_L} {st : List Value} {w : ab_W} : ab_Run ab_mt 191 31 ls st w = ab_Run ab_mt 191 47 ls st w := E_goto rfl
theorem e_191_34 {ls : ab_L} {st : List Value} {w : ab_W} (h : ab_isR (ls 0) = true) : ab_Run ab_mt 191 34 ls st w = ab_Run ab_mt 191 35 ls (ab_gv (ls 0) :: st) w := E_loadr (n := 1) rfl h
theorem e_191_35 {ls : ab_L} {st : List Value} {w : ab_W} (h : ab_isI (ls 1) = true) : ab_Run ab_mt 191 35 ls st w = ab_Run ab_mt 191 36 ls (ab_gv (ls 1) :: st) w := E_loadi (n := 1) rfl h
theorem e_191_36 {ls : ab_L} {st : List Value} {w : ab_W} : ab_Run ab_mt 191 36 ls st w = ab_Run ab_mt 191 38 ls (.int (nI 6) :: st) w := E_push (n := 2) rfl
theorem e_191_38 {ls : ab_L} {st : List Value} {w : ab_W} {x y : Int32} (h : ¬ y = 0) : ab_Run ab_mt 191 38 ls (.int y :: .int x :: st) w = ab_Run ab_mt 191 39 ls (.int (x / y) :: st) w := E_idv (f := fun x y => x / y) rfl h
theorem e_191_39 {ls : ab_L} {st : List Value} {w : ab_W} (h : ab_isI (ls 1) = true) : ab_Run ab_mt 191 39 ls st w = ab_Run ab_mt 191 40 ls (ab_gv (ls 1) :: st) w := E_loadi (n := 1) rfl h
theorem e_191_40 {ls : ab_L} {st : List Value} {w : ab_W} : ab_Run ab_mt 191 40 ls st w = ab_Run ab_mt 191 42 ls (.int (nI 6) :: st) w := E_push (n := 2) rfl
theorem e_191_42 {ls : ab_L} {st : List Value} {w : ab_W} {x y : Int32} (h : ¬ y = 0) : ab_Run ab_mt 191 42 ls (.int y :: .int x :: st) w = ab_Run ab_mt 191 43 ls (.int (x - x / y * y) :: st) w := E_idv (f := fun x y => x - x / y * y) rfl h
theorem e_191_43 {ls : ab_L} {st : List Value} {w : ab_W} {v0 v1 v2 : Value} (h1 : ab_recv ab_mt 109 [v0, v1, v2] w.2 = true) (h8 : ab_w8 st = true) : ab_Run ab_mt 191 43 ls (v2 :: v1 :: v0 :: st) w = ab_aft 109 191 43 ls st (ab_Cl 109 [v0, v1, v2] w) := E_call3 rfl h1 h8
theorem e_191_46 {ls : ab_L} {st : List Value} {w : ab_W} {x : Int32} : ab_Run ab_mt 191 46 ls (.int x :: st) w = ab_Run ab_mt 191 47 ls (.long x.toInt64 :: st) w := E_i2l rfl
theorem e_191_47 {ls : ab_L} {st : List Value} {w : ab_W} {v0 v1 : Value} (h1 : ab_recv ab_mt 190 [v0, v1] w.2 = true) (h8 : ab_w8 st = true) : ab_Run ab_mt 191 47 ls (v1 :: v0 :: st) w = ab_aft 190 191 47 ls st (ab_Cl 190 [v0, v1] w) := E_call2 rfl h1 h8
theorem e_191_50 {ls : ab_L} {st : List Value} {w : ab_W} (h : ab_isI (ls 1) = true) : ab_Run ab_mt 191 50 ls st w = ab_Run ab_mt 191 53 (ab_l1 ls 1 (.int (ab_gi (ls 1) + (nI 1)))) st w := E_iinc rfl h
theorem e_191_53 {ls : ab_L} {st : List Value} {w : ab_W} : ab_Run ab_mt 191 53 ls st w = ab_Run ab_mt 191 2 ls st w := E_goto rfl
theorem e_191_56 {ls : ab_L} {st : List Value} {w : ab_W} (h : ab_isR (ls 0) = true) : ab_Run ab_mt 191 56 ls st w = ab_Run ab_mt 191 57 ls (ab_gv (ls 0) :: st) w := E_loadr (n := 1) rfl h
theorem e_191_57 {ls : ab_L} {st : List Value} {w : ab_W} {v0 : Value} (h1 : ab_recv ab_mt 114 [v0] w.2 = true) (h8 : ab_w8 st = true) : ab_Run ab_mt 191 57 ls (v0 :: st) w = ab_aft 114 191 57 ls st (ab_Cl 114 [v0] w) := E_call1 rfl h1 h8
theorem e_191_60 {ls : ab_L} {st : List Value} {w : ab_W} {x : Int32} : ab_Run ab_mt 191 60 ls (.int x :: st) w = ab_Run ab_mt 191 61 (ab_l1 ls 1 (.int x)) st w := E_stori (n := 1) rfl
theorem e_191_61 {ls : ab_L} {st : List Value} {w : ab_W} : ab_Run ab_mt 191 61 ls st w = ab_Run ab_mt 191 62 ls (.int (nI 0) :: st) w := E_push (n := 1) rfl
theorem e_191_62 {ls : ab_L} {st : List Value} {w : ab_W} {x : Int32} : ab_Run ab_mt 191 62 ls (.int x :: st) w = ab_Run ab_mt 191 63 (ab_l1 ls 2 (.int x)) st w := E_stori (n := 1) rfl
theorem e_191_63 {ls : ab_L} {st : List Value} {w : ab_W} (h : ab_isI (ls 2) = true) : ab_Run ab_mt 191 63 ls st w = ab_Run ab_mt 191 64 ls (ab_gv (ls 2) :: st) w := E_loadi (n := 1) rfl h
theorem e_191_64 {ls : ab_L} {st : List Value} {w : ab_W} (h : ab_isI (ls 1) = true) : ab_Run ab_mt 191 64 ls st w = ab_Run ab_mt 191 65 ls (ab_gv (ls 1) :: st) w := E_loadi (n := 1) rfl h
theorem e_191_65 {ls : ab_L} {st : List Value} {w : ab_W} {x y : Int32} : ab_Run ab_mt 191 65 ls (.int y :: .int x :: st) w = if y ≤ x then ab_Run ab_mt 191 98 ls st w else ab_Run ab_mt 191 68 ls st w := E_ic_ge rfl
theorem e_191_68 {ls : ab_L} {st : List Value} {w : ab_W} : ab_Run ab_mt 191 68 ls st w = ab_Run ab_mt 191 69 ls (.int (nI 2) :: st) w := E_push (n := 1) rfl
theorem e_191_69 {ls : ab_L} {st : List Value} {w : ab_W} {x : Int32} : ab_Run ab_mt 191 69 ls (.int x :: st) w = ab_Run ab_mt 191 70 (ab_l1 ls 3 (.int x)) st w := E_stori (n := 1) rfl
theorem e_191_70 {ls : ab_L} {st : List Value} {w : ab_W} (h : ab_isI (ls 3) = true) : ab_Run ab_mt 191 70 ls st w = ab_Run ab_mt 191 71 ls (ab_gv (ls 3) :: st) w := E_loadi (n := 1) rfl h
theorem e_191_71 {ls : ab_L} {st : List Value} {w : ab_W} : ab_Run ab_mt 191 71 ls st w = ab_Run ab_mt 191 73 ls (.int (nI 7) :: st) w := E_push (n := 2) rfl
theorem e_191_73 {ls : ab_L} {st : List Value} {w : ab_W} {x y : Int32} : ab_Run ab_mt 191 73 ls (.int y :: .int x :: st) w = if y ≤ x then ab_Run ab_mt 191 92 ls st w else ab_Run ab_mt 191 76 ls st w := E_ic_ge rfl
theorem e_191_76 {ls : ab_L} {st : List Value} {w : ab_W} (h : ab_isR (ls 0) = true) : ab_Run ab_mt 191 76 ls st w = ab_Run ab_mt 191 77 ls (ab_gv (ls 0) :: st) w := E_loadr (n := 1) rfl h
theorem e_191_77 {ls : ab_L} {st : List Value} {w : ab_W} (h : ab_isR (ls 0) = true) : ab_Run ab_mt 191 77 ls st w = ab_Run ab_mt 191 78 ls (ab_gv (ls 0) :: st) w := E_loadr (n := 1) rfl h
theorem e_191_78 {ls : ab_L} {st : List Value} {w : ab_W} (h : ab_isI (ls 2) = true) : ab_Run ab_mt 191 78 ls st w = ab_Run ab_mt 191 79 ls (ab_gv (ls 2) :: st) w := E_loadi (n := 1) rfl h
theorem e_191_79 {ls : ab_L} {st : List Value} {w : ab_W} (h : ab_isI (ls 3) = true) : ab_Run ab_mt 191 79 ls st w = ab_Run ab_mt 191 80 ls (ab_gv (ls 3) :: st) w := E_loadi (n := 1) rfl h
theorem e_191_80 {ls : ab_L} {st : List Value} {w : ab_W} {v0 v1 v2 : Value} (h1 : ab_recv ab_mt 170 [v0, v1, v2] w.2 = true) (h8 : ab_w8 st = true) : ab_Run ab_mt 191 80 ls (v2 :: v1 :: v0 :: st) w = ab_aft 170 191 80 ls st (ab_Cl 170 [v0, v1, v2] w) := E_call3 rfl h1 h8
theorem e_191_83 {ls : ab_L} {st : List Value} {w : ab_W} {v0 v1 : Value} (h1 : ab_recv ab_mt 190 [v0, v1] w.2 = true) (h8 : ab_w8 st = true) : ab_Run ab_mt 191 83 ls (v1 :: v0 :: st) w = ab_aft 190 191 83 ls st (ab_Cl 190 [v0, v1] w) := E_call2 rfl h1 h8
theorem e_191_86 {ls : ab_L} {st : List Value} {w : ab_W} (h : ab_isI (ls 3) = true) : ab_Run ab_mt 191 86 ls st w = ab_Run ab_mt 191 89 (ab_l1 ls 3 (.int (ab_gi (ls 3) + (nI 1)))) st w := E_iinc rfl h
theorem e_191_89 {ls : ab_L} {st : List Value} {w : ab_W} : ab_Run ab_mt 191 89 ls st w = ab_Run ab_mt 191 70 ls st w := E_goto rfl
theorem e_191_92 {ls : ab_L} {st : List Value} {w : ab_W} (h : ab_isI (ls 2) = true) : ab_Run ab_mt 191 92 ls st w = ab_Run ab_mt 191 95 (ab_l1 ls 2 (.int (ab_gi (ls 2) + (nI 1)))) st w := E_iinc rfl h
theorem e_191_95 {ls : ab_L} {st : List Value} {w : ab_W} : ab_Run ab_mt 191 95 ls st w = ab_Run ab_mt 191 63 ls st w := E_goto rfl
theorem e_191_98 {ls : ab_L} {st : List Value} {w : ab_W} : ab_Run ab_mt 191 98 ls st w = ab_Run ab_mt 191 99 ls (.int (nI 0) :: st) w := E_push (n := 1) rfl
theorem e_191_99 {ls : ab_L} {st : List Value} {w : ab_W} {x : Int32} : ab_Run ab_mt 191 99 ls (.int x :: st) w = ab_Run ab_mt 191 100 (ab_l1 ls 2 (.int x)) st w := E_stori (n := 1) rfl
theorem e_191_100 {ls : ab_L} {st : List Value} {w : ab_W} (h : ab_isI (ls 2) = true) : ab_Run ab_mt 191 100 ls st w = ab_Run ab_mt 191 101 ls (ab_gv (ls 2) :: st) w := E_loadi (n := 1) rfl h
theorem e_191_101 {ls : ab_L} {st : List Value} {w : ab_W} : ab_Run ab_mt 191 101 ls st w = ab_Run ab_mt 191 102 ls (.int (nI 3) :: st) w := E_push (n := 1) rfl
theorem e_191_102 {ls : ab_L} {st : List Value} {w : ab_W} (h : ab_isR (ls 0) = true) : ab_Run ab_mt 191 102 ls st w = ab_Run ab_mt 191 103 ls (ab_gv (ls 0) :: st) w := E_loadr (n := 1) rfl h
theorem e_191_103 {ls : ab_L} {st : List Value} {w : ab_W} {a : Nat} (h : ab_isF 7 1 (w.2 a) = true) : ab_Run ab_mt 191 103 ls (.ref a :: st) w = ab_Run ab_mt 191 106 ls (ab_fv 1 (w.2 a) :: st) w := E_get rfl h
theorem e_191_106 {ls : ab_L} {st : List Value} {w : ab_W} : ab_Run ab_mt 191 106 ls st w = ab_Run ab_mt 191 109 ls (.int (nI 191) :: st) w := E_push (n := 3) rfl
theorem e_191_109 {ls : ab_L} {st : List Value} {w : ab_W} {a : Nat} {i : Int32} (h : ab_inI i (w.2 a) = true) : ab_Run ab_mt 191 109 ls (.int i :: .ref a :: st) w = ab_Run ab_mt 191 110 ls (.int (ab_aI i.toNatClampNeg (w.2 a)) :: st) w := E_iald rfl h
theorem e_191_110 {ls : ab_L} {st : List Value} {w : ab_W} {x y : Int32} : ab_Run ab_mt 191 110 ls (.int y :: .int x :: st) w = ab_Run ab_mt 191 111 ls (.int (x * y) :: st) w := E_ib (f := fun x y => x * y) rfl
theorem e_191_111 {ls : ab_L} {st : List Value} {w : ab_W} {x y : Int32} : ab_Run ab_mt 191 111 ls (.int y :: .int x :: st) w = if y ≤ x then ab_Run ab_mt 191 134 ls st w else ab_Run ab_mt 191 114 ls st w := E_ic_ge rfl
theorem e_191_114 {ls : ab_L} {st : List Value} {w : ab_W} (h : ab_isR (ls 0) = true) : ab_Run ab_mt 191 114 ls st w = ab_Run ab_mt 191 115 ls (ab_gv (ls 0) :: st) w := E_loadr (n := 1) rfl h
theorem e_191_115 {ls : ab_L} {st : List Value} {w : ab_W} (h : ab_isR (ls 0) = true) : ab_Run ab_mt 191 115 ls st w = ab_Run ab_mt 191 116 ls (ab_gv (ls 0) :: st) w := E_loadr (n := 1) rfl h
theorem e_191_116 {ls : ab_L} {st : List Value} {w : ab_W} {a : Nat} (h : ab_isF 7 1 (w.2 a) = true) : ab_Run ab_mt 191 116 ls (.ref a :: st) w = ab_Run ab_mt 191 119 ls (ab_fv 1 (w.2 a) :: st) w := E_get rfl h
theorem e_191_119 {ls : ab_L} {st : List Value} {w : ab_W} : ab_Run ab_mt 191 119 ls st w = ab_Run ab_mt 191 121 ls (.int (nI 120) :: st) w := E_push (n := 2) rfl
theorem e_191_121 {ls : ab_L} {st : List Value} {w : ab_W} (h : ab_isI (ls 2) = true) : ab_Run ab_mt 191 121 ls st w = ab_Run ab_mt 191 122 ls (ab_gv (ls 2) :: st) w := E_loadi (n := 1) rfl h
theorem e_191_122 {ls : ab_L} {st : List Value} {w : ab_W} {x y : Int32} : ab_Run ab_mt 191 122 ls (.int y :: .int x :: st) w = ab_Run ab_mt 191 123 ls (.int (x + y) :: st) w := E_ib (f := fun x y => x + y) rfl
theorem e_191_123 {ls : ab_L} {st : List Value} {w : ab_W} {a : Nat} {i : Int32} (h : ab_inI i (w.2 a) = true) : ab_Run ab_mt 191 123 ls (.int i :: .ref a :: st) w = ab_Run ab_mt 191 124 ls (.int (ab_aI i.toNatClampNeg (w.2 a)) :: st) w := E_iald rfl h
theorem e_191_124 {ls : ab_L} {st : List Value} {w : ab_W} {x : Int32} : ab_Run ab_mt 191 124 ls (.int x :: st) w = ab_Run ab_mt 191 125 ls (.long x.toInt64 :: st) w := E_i2l rfl
theorem e_191_125 {ls : ab_L} {st : List Value} {w : ab_W} {v0 v1 : Value} (h1 : ab_recv ab_mt 190 [v0, v1] w.2 = true) (h8 : ab_w8 st = true) : ab_Run ab_mt 191 125 ls (v1 :: v0 :: st) w = ab_aft 190 191 125 ls st (ab_Cl 190 [v0, v1] w) := E_call2 rfl h1 h8
theorem e_191_128 {ls : ab_L} {st : List Value} {w : ab_W} (h : ab_isI (ls 2) = true) : ab_Run ab_mt 191 128 ls st w = ab_Run ab_mt 191 131 (ab_l1 ls 2 (.int (ab_gi (ls 2) + (nI 1)))) st w := E_iinc rfl h
theorem e_191_131 {ls : ab_L} {st : List Value} {w : ab_W} : ab_Run ab_mt 191 131 ls st w = ab_Run ab_mt 191 100 ls st w := E_goto rfl
theorem e_191_134 {ls : ab_L} {st : List Value} {w : ab_W} : ab_Run ab_mt 191 134 ls st w = ab_Run ab_mt 191 135 ls (.int (nI 0) :: st) w := E_push (n := 1) rfl
theorem e_191_135 {ls : ab_L} {st : List Value} {w : ab_W} {x : Int32} : ab_Run ab_mt 191 135 ls (.int x :: st) w = ab_Run ab_mt 191 136 (ab_l1 ls 2 (.int x)) st w := E_stori (n := 1) rfl
theorem e_191_136 {ls : ab_L} {st : List Value} {w : ab_W} (h : ab_isI (ls 2) = true) : ab_Run ab_mt 191 136 ls st w = ab_Run ab_mt 191 137 ls (ab_gv (ls 2) :: st) w := E_loadi (n := 1) rfl h
theorem e_191_137 {ls : ab_L} {st : List Value} {w : ab_W} : ab_Run ab_mt 191 137 ls st w = ab_Run ab_mt 191 138 ls (.int (nI 5) :: st) w := E_push (n := 1) rfl
theorem e_191_138 {ls : ab_L} {st : List Value} {w : ab_W} (h : ab_isR (ls 0) = true) : ab_Run ab_mt 191 138 ls st w = ab_Run ab_mt 191 139 ls (ab_gv (ls 0) :: st) w := E_loadr (n := 1) rfl h
theorem e_191_139 {ls : ab_L} {st : List Value} {w : ab_W} {a : Nat} (h : ab_isF 7 1 (w.2 a) = true) : ab_Run ab_mt 191 139 ls (.ref a :: st) w = ab_Run ab_mt 191 142 ls (ab_fv 1 (w.2 a) :: st) w := E_get rfl h
theorem e_191_142 {ls : ab_L} {st : List Value} {w : ab_W} : ab_Run ab_mt 191 142 ls st w = ab_Run ab_mt 191 145 ls (.int (nI 192) :: st) w := E_push (n := 3) rfl
theorem e_191_145 {ls : ab_L} {st : List Value} {w : ab_W} {a : Nat} {i : Int32} (h : ab_inI i (w.2 a) = true) : ab_Run ab_mt 191 145 ls (.int i :: .ref a :: st) w = ab_Run ab_mt 191 146 ls (.int (ab_aI i.toNatClampNeg (w.2 a)) :: st) w := E_iald rfl h
theorem e_191_146 {ls : ab_L} {st : List Value} {w : ab_W} {x y : Int32} : ab_Run ab_mt 191 146 ls (.int y :: .int x :: st) w = ab_Run ab_mt 191 147 ls (.int (x * y) :: st) w := E_ib (f := fun x y => x * y) rfl
theorem e_191_147 {ls : ab_L} {st : List Value} {w : ab_W} {x y : Int32} : ab_Run ab_mt 191 147 ls (.int y :: .int x :: st) w = if y ≤ x then ab_Run ab_mt 191 170 ls st w else ab_Run ab_mt 191 150 ls st w := E_ic_ge rfl
theorem e_191_150 {ls : ab_L} {st : List Value} {w : ab_W} (h : ab_isR (ls 0) = true) : ab_Run ab_mt 191 150 ls st w = ab_Run ab_mt 191 151 ls (ab_gv (ls 0) :: st) w := E_loadr (n := 1) rfl h
theorem e_191_151 {ls : ab_L} {st : List Value} {w : ab_W} (h : ab_isR (ls 0) = true) : ab_Run ab_mt 191 151 ls st w = ab_Run ab_mt 191 152 ls (ab_gv (ls 0) :: st) w := E_loadr (n := 1) rfl h
theorem e_191_152 {ls : ab_L} {st : List Value} {w : ab_W} (h : ab_isI (ls 2) = true) : ab_Run ab_mt 191 152 ls st w = ab_Run ab_mt 191 153 ls (ab_gv (ls 2) :: st) w := E_loadi (n := 1) rfl h
theorem e_191_153 {ls : ab_L} {st : List Value} {w : ab_W} : ab_Run ab_mt 191 153 ls st w = ab_Run ab_mt 191 154 ls (.int (nI 5) :: st) w := E_push (n := 1) rfl
theorem e_191_154 {ls : ab_L} {st : List Value} {w : ab_W} {x y : Int32} (h : ¬ y = 0) : ab_Run ab_mt 191 154 ls (.int y :: .int x :: st) w = ab_Run ab_mt 191 155 ls (.int (x / y) :: st) w := E_idv (f := fun x y => x / y) rfl h
theorem e_191_155 {ls : ab_L} {st : List Value} {w : ab_W} (h : ab_isI (ls 2) = true) : ab_Run ab_mt 191 155 ls st w = ab_Run ab_mt 191 156 ls (ab_gv (ls 2) :: st) w := E_loadi (n := 1) rfl h
theorem e_191_156 {ls : ab_L} {st : List Value} {w : ab_W} : ab_Run ab_mt 191 156 ls st w = ab_Run ab_mt 191 157 ls (.int (nI 5) :: st) w := E_push (n := 1) rfl
theorem e_191_157 {ls : ab_L} {st : List Value} {w : ab_W} {x y : Int32} (h : ¬ y = 0) : ab_Run ab_mt 191 157 ls (.int y :: .int x :: st) w = ab_Run ab_mt 191 158 ls (.int (x - x / y * y) :: st) w := E_idv (f := fun x y => x - x / y * y) rfl h
theorem e_191_158 {ls : ab_L} {st : List Value} {w : ab_W} {v0 v1 v2 : Value} (h1 : ab_recv ab_mt 175 [v0, v1, v2] w.2 = true) (h8 : ab_w8 st = true) : ab_Run ab_mt 191 158 ls (v2 :: v1 :: v0 :: st) w = ab_aft 175 191 158 ls st (ab_Cl 175 [v0, v1, v2] w) := E_call3 rfl h1 h8
theorem e_191_161 {ls : ab_L} {st : List Value} {w : ab_W} {v0 v1 : Value} (h1 : ab_recv ab_mt 190 [v0, v1] w.2 = true) (h8 : ab_w8 st = true) : ab_Run ab_mt 191 161 ls (v1 :: v0 :: st) w = ab_aft 190 191 161 ls st (ab_Cl 190 [v0, v1] w) := E_call2 rfl h1 h8
theorem e_191_164 {ls : ab_L} {st : List Value} {w : ab_W} (h : ab_isI (ls 2) = true) : ab_Run ab_mt 191 164 ls st w = ab_Run ab_mt 191 167 (ab_l1 ls 2 (.int (ab_gi (ls 2) + (nI 1)))) st w := E_iinc rfl h
theorem e_191_167 {ls : ab_L} {st : List Value} {w : ab_W} : ab_Run ab_mt 191 167 ls st w = ab_Run ab_mt 191 136 ls st w := E_goto rfl
theorem e_191_170 {ls : ab_L} {w : ab_W} : ab_Run ab_mt 191 170 ls [] w = some (.inl none, w) := E_ret0 rfl
theorem rv_191 {σ : ab_S} {t : Nat} : ab_recv ab_mt 191 [.ref t] σ = ab_isO 7 (σ t) := rfl
theorem e_192_0 {ls : ab_L} {st : List Value} {w : ab_W} (h : ab_isR (ls 0) = true) : ab_Run ab_mt 192 0 ls st w = ab_Run ab_mt 192 1 ls (ab_gv (ls 0) :: st) w := E_loadr (n := 1) rfl h
theorem e_192_1 {ls : ab_L} {st : List Value} {w : ab_W} : ab_Run ab_mt 192 1 ls st w = ab_Run ab_mt 192 2 ls (.int (nI 0) :: st) w := E_push (n := 1) rfl
theorem e_192_2 {ls : ab_L} {st : List Value} {w : ab_W} {a : Nat} {x : Int32} (h : ab_isF 7 0 (w.2 a) = true) : ab_Run ab_mt 192 2 ls (.int x :: .ref a :: st) w = ab_Run ab_mt 192 5 ls st (w.1, ab_up w.2 a (ab_sf 0 (.int x) (w.2 a))) := E_put rfl h rfl
theorem e_192_5 {ls : ab_L} {st : List Value} {w : ab_W} (h : ab_isR (ls 0) = true) : ab_Run ab_mt 192 5 ls st w = ab_Run ab_mt 192 6 ls (ab_gv (ls 0) :: st) w := E_loadr (n := 1) rfl h
theorem e_192_6 {ls : ab_L} {st : List Value} {w : ab_W} : ab_Run ab_mt 192 6 ls st w = ab_Run ab_mt 192 9 ls (.long (lN 2083) :: st) w := E_push (n := 3) rfl
theorem e_192_9 {ls : ab_L} {st : List Value} {w : ab_W} {a : Nat} {x : Int64} (h : ab_isF 7 23 (w.2 a) = true) : ab_Run ab_mt 192 9 ls (.long x :: .ref a :: st) w = ab_Run ab_mt 192 12 ls st (w.1, ab_up w.2 a (ab_sf 23 (.long x) (w.2 a))) := E_put rfl h rfl
theorem e_192_12 {ls : ab_L} {st : List Value} {w : ab_W} (h : ab_isR (ls 0) = true) : ab_Run ab_mt 192 12 ls st w = ab_Run ab_mt 192 13 ls (ab_gv (ls 0) :: st) w := E_loadr (n := 1) rfl h
theorem e_192_13 {ls : ab_L} {st : List Value} {w : ab_W} {v0 : Value} (h1 : ab_recv ab_mt 122 [v0] w.2 = true) (h8 : ab_w8 st = true) : ab_Run ab_mt 192 13 ls (v0 :: st) w = ab_aft 122 192 13 ls st (ab_Cl 122 [v0] w) := E_call1 rfl h1 h8
theorem e_192_16 {ls : ab_L} {st : List Value} {w : ab_W} : ab_Run ab_mt 192 16 ls st w = ab_Run ab_mt 192 17 ls (.int (nI 0) :: st) w := E_push (n := 1) rfl
theorem e_192_17 {ls : ab_L} {st : List Value} {w : ab_W} {x : Int32} : ab_Run ab_mt 192 17 ls (.int x :: st) w = ab_Run ab_mt 192 18 (ab_l1 ls 1 (.int x)) st w := E_stori (n := 1) rfl
theorem e_192_18 {ls : ab_L} {st : List Value} {w : ab_W} (h : ab_isI (ls 1) = true) : ab_Run ab_mt 192 18 ls st w = ab_Run ab_mt 192 19 ls (ab_gv (ls 1) :: st) w := E_loadi (n := 1) rfl h
theorem e_192_19 {ls : ab_L} {st : List Value} {w : ab_W} : ab_Run ab_mt 192 19 ls st w = ab_Run ab_mt 192 21 ls (.int (nI 12) :: st) w := E_push (n := 2) rfl
theorem e_192_21 {ls : ab_L} {st : List Value} {w : ab_W} {x y : Int32} : ab_Run ab_mt 192 21 ls (.int y :: .int x :: st) w = if y ≤ x then ab_Run ab_mt 192 39 ls st w else ab_Run ab_mt 192 24 ls st w := E_ic_ge rfl
theorem e_192_24 {ls : ab_L} {st : List Value} {w : ab_W} (h : ab_isR (ls 0) = true) : ab_Run ab_mt 192 24 ls st w = ab_Run ab_mt 192 25 ls (ab_gv (ls 0) :: st) w := E_loadr (n := 1) rfl h
theorem e_192_25 {ls : ab_L} {st : List Value} {w : ab_W} (h : ab_isR (ls 0) = true) : ab_Run ab_mt 192 25 ls st w = ab_Run ab_mt 192 26 ls (ab_gv (ls 0) :: st) w := E_loadr (n := 1) rfl h
theorem e_192_26 {ls : ab_L} {st : List Value} {w : ab_W} (h : ab_isI (ls 1) = true) : ab_Run ab_mt 192 26 ls st w = ab_Run ab_mt 192 27 ls (ab_gv (ls 1) :: st) w := E_loadi (n := 1) rfl h
theorem e_192_27 {ls : ab_L} {st : List Value} {w : ab_W} {v0 v1 : Value} (h1 : ab_recv ab_mt 182 [v0, v1] w.2 = true) (h8 : ab_w8 st = true) : ab_Run ab_mt 192 27 ls (v1 :: v0 :: st) w = ab_aft 182 192 27 ls st (ab_Cl 182 [v0, v1] w) := E_call2 rfl h1 h8
theorem e_192_30 {ls : ab_L} {st : List Value} {w : ab_W} {v0 v1 : Value} (h1 : ab_recv ab_mt 190 [v0, v1] w.2 = true) (h8 : ab_w8 st = true) : ab_Run ab_mt 192 30 ls (v1 :: v0 :: st) w = ab_aft 190 192 30 ls st (ab_Cl 190 [v0, v1] w) := E_call2 rfl h1 h8
theorem e_192_33 {ls : ab_L} {st : List Value} {w : ab_W} (h : ab_isI (ls 1) = true) : ab_Run ab_mt 192 33 ls st w = ab_Run ab_mt 192 36 (ab_l1 ls 1 (.int (ab_gi (ls 1) + (nI 1)))) st w := E_iinc rfl h
theorem e_192_36 {ls : ab_L} {st : List Value} {w : ab_W} : ab_Run ab_mt 192 36 ls st w = ab_Run ab_mt 192 18 ls st w := E_goto rfl
theorem e_192_39 {ls : ab_L} {st : List Value} {w : ab_W} : ab_Run ab_mt 192 39 ls st w = ab_Run ab_mt 192 40 ls (.int (nI 0) :: st) w := E_push (n := 1) rfl
theorem e_192_40 {ls : ab_L} {st : List Value} {w : ab_W} {x : Int32} : ab_Run ab_mt 192 40 ls (.int x :: st) w = ab_Run ab_mt 192 41 (ab_l1 ls 1 (.int x)) st w := E_stori (n := 1) rfl
theorem e_192_41 {ls : ab_L} {st : List Value} {w : ab_W} (h : ab_isI (ls 1) = true) : ab_Run ab_mt 192 41 ls st w = ab_Run ab_mt 192 42 ls (ab_gv (ls 1) :: st) w := E_loadi (n := 1) rfl h
theorem e_192_42 {ls : ab_L} {st : List Value} {w : ab_W} : ab_Run ab_mt 192 42 ls st w = ab_Run ab_mt 192 44 ls (.int (nI 7) :: st) w := E_push (n := 2) rfl
theorem e_192_44 {ls : ab_L} {st : List Value} {w : ab_W} {x y : Int32} : ab_Run ab_mt 192 44 ls (.int y :: .int x :: st) w = if y ≤ x then ab_Run ab_mt 192 62 ls st w else ab_Run ab_mt 192 47 ls st w := E_ic_ge rfl
theorem e_192_47 {ls : ab_L} {st : List Value} {w : ab_W} (h : ab_isR (ls 0) = true) : ab_Run ab_mt 192 47 ls st w = ab_Run ab_mt 192 48 ls (ab_gv (ls 0) :: st) w := E_loadr (n := 1) rfl h
theorem e_192_48 {ls : ab_L} {st : List Value} {w : ab_W} (h : ab_isR (ls 0) = true) : ab_Run ab_mt 192 48 ls st w = ab_Run ab_mt 192 49 ls (ab_gv (ls 0) :: st) w := E_loadr (n := 1) rfl h
theorem e_192_49 {ls : ab_L} {st : List Value} {w : ab_W} (h : ab_isI (ls 1) = true) : ab_Run ab_mt 192 49 ls st w = ab_Run ab_mt 192 50 ls (ab_gv (ls 1) :: st) w := E_loadi (n := 1) rfl h
theorem e_192_50 {ls : ab_L} {st : List Value} {w : ab_W} {v0 v1 : Value} (h1 : ab_recv ab_mt 167 [v0, v1] w.2 = true) (h8 : ab_w8 st = true) : ab_Run ab_mt 192 50 ls (v1 :: v0 :: st) w = ab_aft 167 192 50 ls st (ab_Cl 167 [v0, v1] w) := E_call2 rfl h1 h8
theorem e_192_53 {ls : ab_L} {st : List Value} {w : ab_W} {v0 v1 : Value} (h1 : ab_recv ab_mt 190 [v0, v1] w.2 = true) (h8 : ab_w8 st = true) : ab_Run ab_mt 192 53 ls (v1 :: v0 :: st) w = ab_aft 190 192 53 ls st (ab_Cl 190 [v0, v1] w) := E_call2 rfl h1 h8
theorem e_192_56 {ls : ab_L} {st : List Value} {w : ab_W} (h : ab_isI (ls 1) = true) : ab_Run ab_mt 192 56 ls st w = ab_Run ab_mt 192 59 (ab_l1 ls 1 (.int (ab_gi (ls 1) + (nI 1)))) st w := E_iinc rfl h
theorem e_192_59 {ls : ab_L} {st : List Value} {w : ab_W} : ab_Run ab_mt 192 59 ls st w = ab_Run ab_mt 192 41 ls st w := E_goto rfl
theorem e_192_62 {ls : ab_L} {st : List Value} {w : ab_W} (h : ab_isR (ls 0) = true) : ab_Run ab_mt 192 62 ls st w = ab_Run ab_mt 192 63 ls (ab_gv (ls 0) :: st) w := E_loadr (n := 1) rfl h
theorem e_192_63 {ls : ab_L} {st : List Value} {w : ab_W} {v0 : Value} (h1 : ab_recv ab_mt 191 [v0] w.2 = true) (h8 : ab_w8 st = true) : ab_Run ab_mt 192 63 ls (v0 :: st) w = ab_aft 191 192 63 ls st (ab_Cl 191 [v0] w) := E_call1 rfl h1 h8
theorem e_192_66 {ls : ab_L} {st : List Value} {w : ab_W} (h : ab_isR (ls 0) = true) : ab_Run ab_mt 192 66 ls st w = ab_Run ab_mt 192 67 ls (ab_gv (ls 0) :: st) w := E_loadr (n := 1) rfl h
theorem e_192_67 {ls : ab_L} {st : List Value} {w : ab_W} (h : ab_isR (ls 0) = true) : ab_Run ab_mt 192 67 ls st w = ab_Run ab_mt 192 68 ls (ab_gv (ls 0) :: st) w := E_loadr (n := 1) rfl h
theorem e_192_68 {ls : ab_L} {st : List Value} {w : ab_W} {v0 : Value} (h1 : ab_recv ab_mt 188 [v0] w.2 = true) (h8 : ab_w8 st = true) : ab_Run ab_mt 192 68 ls (v0 :: st) w = ab_aft 188 192 68 ls st (ab_Cl 188 [v0] w) := E_call1 rfl h1 h8
theorem e_192_71 {ls : ab_L} {st : List Value} {w : ab_W} {v0 : Value} (h1 : ab_recv ab_mt 221 [v0] w.2 = true) (h8 : ab_w8 st = true) : ab_Run ab_mt 192 71 ls (v0 :: st) w = ab_aft 221 192 71 ls st (ab_Cl 221 [v0] w) := E_call1 rfl h1 h8
theorem e_192_74 {ls : ab_L} {st : List Value} {w : ab_W} {v0 v1 : Value} (h1 : ab_recv ab_mt 190 [v0, v1] w.2 = true) (h8 : ab_w8 st = true) : ab_Run ab_mt 192 74 ls (v1 :: v0 :: st) w = ab_aft 190 192 74 ls st (ab_Cl 190 [v0, v1] w) := E_call2 rfl h1 h8
theorem e_192_77 {ls : ab_L} {st : List Value} {w : ab_W} (h : ab_isR (ls 0) = true) : ab_Run ab_mt 192 77 ls st w = ab_Run ab_mt 192 78 ls (ab_gv (ls 0) :: st) w := E_loadr (n := 1) rfl h
theorem e_192_78 {ls : ab_L} {st : List Value} {w : ab_W} (h : ab_isR (ls 0) = true) : ab_Run ab_mt 192 78 ls st w = ab_Run ab_mt 192 79 ls (ab_gv (ls 0) :: st) w := E_loadr (n := 1) rfl h
theorem e_192_79 {ls : ab_L} {st : List Value} {w : ab_W} {a : Nat} (h : ab_isF 7 7 (w.2 a) = true) : ab_Run ab_mt 192 79 ls (.ref a :: st) w = ab_Run ab_mt 192 82 ls (ab_fv 7 (w.2 a) :: st) w := E_get rfl h
theorem e_192_82 {ls : ab_L} {st : List Value} {w : ab_W} {x : Int32} : ab_Run ab_mt 192 82 ls (.int x :: st) w = ab_Run ab_mt 192 83 ls (.long x.toInt64 :: st) w := E_i2l rfl
theorem e_192_83 {ls : ab_L} {st : List Value} {w : ab_W} {v0 v1 : Value} (h1 : ab_recv ab_mt 190 [v0, v1] w.2 = true) (h8 : ab_w8 st = true) : ab_Run ab_mt 192 83 ls (v1 :: v0 :: st) w = ab_aft 190 192 83 ls st (ab_Cl 190 [v0, v1] w) := E_call2 rfl h1 h8
theorem e_192_86 {ls : ab_L} {st : List Value} {w : ab_W} : ab_Run ab_mt 192 86 ls st w = ab_Run ab_mt 192 87 ls (.int (nI 0) :: st) w := E_push (n := 1) rfl
theorem e_192_87 {ls : ab_L} {st : List Value} {w : ab_W} {x : Int32} : ab_Run ab_mt 192 87 ls (.int x :: st) w = ab_Run ab_mt 192 88 (ab_l1 ls 1 (.int x)) st w := E_stori (n := 1) rfl
theorem e_192_88 {ls : ab_L} {st : List Value} {w : ab_W} (h : ab_isI (ls 1) = true) : ab_Run ab_mt 192 88 ls st w = ab_Run ab_mt 192 89 ls (ab_gv (ls 1) :: st) w := E_loadi (n := 1) rfl h
theorem e_192_89 {ls : ab_L} {st : List Value} {w : ab_W} (h : ab_isR (ls 0) = true) : ab_Run ab_mt 192 89 ls st w = ab_Run ab_mt 192 90 ls (ab_gv (ls 0) :: st) w := E_loadr (n := 1) rfl h
theorem e_192_90 {ls : ab_L} {st : List Value} {w : ab_W} {a : Nat} (h : ab_isF 7 7 (w.2 a) = true) : ab_Run ab_mt 192 90 ls (.ref a :: st) w = ab_Run ab_mt 192 93 ls (ab_fv 7 (w.2 a) :: st) w := E_get rfl h
theorem e_192_93 {ls : ab_L} {st : List Value} {w : ab_W} {x y : Int32} : ab_Run ab_mt 192 93 ls (.int y :: .int x :: st) w = if y ≤ x then ab_Run ab_mt 192 113 ls st w else ab_Run ab_mt 192 96 ls st w := E_ic_ge rfl
theorem e_192_96 {ls : ab_L} {st : List Value} {w : ab_W} (h : ab_isR (ls 0) = true) : ab_Run ab_mt 192 96 ls st w = ab_Run ab_mt 192 97 ls (ab_gv (ls 0) :: st) w := E_loadr (n := 1) rfl h
theorem e_192_97 {ls : ab_L} {st : List Value} {w : ab_W} (h : ab_isR (ls 0) = true) : ab_Run ab_mt 192 97 ls st w = ab_Run ab_mt 192 98 ls (ab_gv (ls 0) :: st) w := E_loadr (n := 1) rfl h
theorem e_192_98 {ls : ab_L} {st : List Value} {w : ab_W} {a : Nat} (h : ab_isF 7 8 (w.2 a) = true) : ab_Run ab_mt 192 98 ls (.ref a :: st) w = ab_Run ab_mt 192 101 ls (ab_fv 8 (w.2 a) :: st) w := E_get rfl h
theorem e_192_101 {ls : ab_L} {st : List Value} {w : ab_W} (h : ab_isI (ls 1) = true) : ab_Run ab_mt 192 101 ls st w = ab_Run ab_mt 192 102 ls (ab_gv (ls 1) :: st) w := E_loadi (n := 1) rfl h
theorem e_192_102 {ls : ab_L} {st : List Value} {w : ab_W} {a : Nat} {i : Int32} (h : ab_inI i (w.2 a) = true) : ab_Run ab_mt 192 102 ls (.int i :: .ref a :: st) w = ab_Run ab_mt 192 103 ls (.int (ab_aI i.toNatClampNeg (w.2 a)) :: st) w := E_iald rfl h
theorem e_192_103 {ls : ab_L} {st : List Value} {w : ab_W} {x : Int32} : ab_Run ab_mt 192 103 ls (.int x :: st) w = ab_Run ab_mt 192 104 ls (.long x.toInt64 :: st) w := E_i2l rfl
theorem e_192_104 {ls : ab_L} {st : List Value} {w : ab_W} {v0 v1 : Value} (h1 : ab_recv ab_mt 190 [v0, v1] w.2 = true) (h8 : ab_w8 st = true) : ab_Run ab_mt 192 104 ls (v1 :: v0 :: st) w = ab_aft 190 192 104 ls st (ab_Cl 190 [v0, v1] w) := E_call2 rfl h1 h8
theorem e_192_107 {ls : ab_L} {st : List Value} {w : ab_W} (h : ab_isI (ls 1) = true) : ab_Run ab_mt 192 107 ls st w = ab_Run ab_mt 192 110 (ab_l1 ls 1 (.int (ab_gi (ls 1) + (nI 1)))) st w := E_iinc rfl h
theorem e_192_110 {ls : ab_L} {st : List Value} {w : ab_W} : ab_Run ab_mt 192 110 ls st w = ab_Run ab_mt 192 88 ls st w := E_goto rfl
theorem e_192_113 {ls : ab_L} {st : List Value} {w : ab_W} (h : ab_isR (ls 0) = true) : ab_Run ab_mt 192 113 ls st w = ab_Run ab_mt 192 114 ls (ab_gv (ls 0) :: st) w := E_loadr (n := 1) rfl h
theorem e_192_114 {ls : ab_L} {st : List Value} {w : ab_W} {a : Nat} (h : ab_isF 7 23 (w.2 a) = true) : ab_Run ab_mt 192 114 ls (.ref a :: st) w = ab_Run ab_mt 192 117 ls (ab_fv 23 (w.2 a) :: st) w := E_get rfl h
theorem e_192_117 {ls : ab_L} {w : ab_W} {x : Int64} : ab_Run ab_mt 192 117 ls [.long x] w = some (.inl (some (.long x)), w) := E_retl rfl
theorem rv_192 {σ : ab_S} {t : Nat} : ab_recv ab_mt 192 [.ref t] σ = ab_isO 7 (σ t) := rfl
theorem x_192_13 {ls : ab_L} {rest : List Value} {E : Nat} {w : ab_W} : ab_aft 122 192 13 ls rest (some (.inr E, w)) = some (.inr E, w) := ab_aft_x rfl rfl (by unfold ab_hand; rfl)
theorem x_192_27 {ls : ab_L} {rest : List Value} {E : Nat} {w : ab_W} : ab_aft 182 192 27 ls rest (some (.inr E, w)) = some (.inr E, w) := ab_aft_x rfl rfl (by unfold ab_hand; rfl)
theorem x_192_50 {ls : ab_L} {rest : List Value} {E : Nat} {w : ab_W} : ab_aft 167 192 50 ls rest (some (.inr E, w)) = some (.inr E, w) := ab_aft_x rfl rfl (by unfold ab_hand; rfl)
theorem x_192_63 {ls : ab_L} {rest : List Value} {E : Nat} {w : ab_W} : ab_aft 191 192 63 ls rest (some (.inr E, w)) = some (.inr E, w) := ab_aft_x rfl rfl (by unfold ab_hand; rfl)
theorem e_193_0 {ls : ab_L} {st : List Value} {w : ab_W} (h : ab_isR (ls 1) = true) : ab_Run ab_mt 193 0 ls st w = ab_Run ab_mt 193 1 ls (ab_gv (ls 1) :: st) w := E_loadr (n := 1) rfl h
theorem e_193_1 {ls : ab_L} {st : List Value} {w : ab_W} : ab_Run ab_mt 193 1 ls st w = ab_Run ab_mt 193 2 ls (.int (nI 0) :: st) w := E_push (n := 1) rfl
theorem e_193_2 {ls : ab_L} {st : List Value} {w : ab_W} (h : ab_isR (ls 0) = true) : ab_Run ab_mt 193 2 ls st w = ab_Run ab_mt 193 3 ls (ab_gv (ls 0) :: st) w := E_loadr (n := 1) rfl h
theorem e_193_3 {ls : ab_L} {st : List Value} {w : ab_W} {v0 : Value} (h1 : ab_recv ab_mt 1 [v0] w.2 = true) (h8 : ab_w8 st = true) : ab_Run ab_mt 193 3 ls (v0 :: st) w = ab_aft 1 193 3 ls st (ab_Cl 1 [v0] w) := E_call1 rfl h1 h8
theorem e_193_6 {ls : ab_L} {st : List Value} {w : ab_W} {x : Int32} : ab_Run ab_mt 193 6 ls (.int x :: st) w = ab_Run ab_mt 193 7 ls (.long x.toInt64 :: st) w := E_i2l rfl
theorem e_193_7 {ls : ab_L} {st : List Value} {w : ab_W} {a : Nat} {i : Int32} {x : Int64} (h : ab_inL i (w.2 a) = true) : ab_Run ab_mt 193 7 ls (.long x :: .int i :: .ref a :: st) w = ab_Run ab_mt 193 8 ls st (w.1, ab_up w.2 a (ab_sL i.toNatClampNeg x (w.2 a))) := E_last rfl h
theorem e_193_8 {ls : ab_L} {st : List Value} {w : ab_W} : ab_Run ab_mt 193 8 ls st w = ab_Run ab_mt 193 14 ls st w := E_goto rfl
theorem e_193_11 {ls : ab_L} {st : List Value} {w : ab_W} {x : Nat} : ab_Run ab_mt 193 11 ls (.ref x :: st) w = ab_Run ab_mt 193 12 (ab_l1 ls 2 (.ref x)) st w := E_storr (n := 1) rfl
theorem e_193_12 {ls : ab_L} {st : List Value} {w : ab_W} : ab_Run ab_mt 193 12 ls st w = ab_Run ab_mt 193 13 ls (.int (nI 1) :: st) w := E_push (n := 1) rfl
theorem e_193_13 {ls : ab_L} {w : ab_W} {x : Int32} : ab_Run ab_mt 193 13 ls [.int x] w = some (.inl (some (.int x)), w) := E_reti rfl
theorem e_193_14 {ls : ab_L} {st : List Value} {w : ab_W} : ab_Run ab_mt 193 14 ls st w = ab_Run ab_mt 193 15 ls (.int (nI 0) :: st) w := E_push (n := 1) rfl
theorem e_193_15 {ls : ab_L} {w : ab_W} {x : Int32} : ab_Run ab_mt 193 15 ls [.int x] w = some (.inl (some (.int x)), w) := E_reti rfl
theorem rv_193 {σ : ab_S} {x0 : Nat} {x1 : Nat} : ab_recv ab_mt 193 [.ref x0, .ref x1] σ = true := rfl
theorem xh_193_3_0 {ls : ab_L} {rest : List Value} {w : ab_W} : ab_aft 1 193 3 ls rest (some (.inr 0, w)) = ab_Run ab_mt 193 12 (fun _ => none) [] w := ab_aft_h rfl rfl
theorem e_194_0 {ls : ab_L} {st : List Value} {w : ab_W} (h : ab_isR (ls 3) = true) : ab_Run ab_mt 194 0 ls st w = ab_Run ab_mt 194 1 ls (ab_gv (ls 3) :: st) w := E_loadr (n := 1) rfl h
theorem e_194_1 {ls : ab_L} {st : List Value} {w : ab_W} : ab_Run ab_mt 194 1 ls st w = ab_Run ab_mt 194 2 ls (.int (nI 0) :: st) w := E_push (n := 1) rfl
theorem e_194_2 {ls : ab_L} {st : List Value} {w : ab_W} (h : ab_isR (ls 0) = true) : ab_Run ab_mt 194 2 ls st w = ab_Run ab_mt 194 3 ls (ab_gv (ls 0) :: st) w := E_loadr (n := 1) rfl h
theorem e_194_3 {ls : ab_L} {st : List Value} {w : ab_W} (h : ab_isI (ls 1) = true) : ab_Run ab_mt 194 3 ls st w = ab_Run ab_mt 194 4 ls (ab_gv (ls 1) :: st) w := E_loadi (n := 1) rfl h
theorem e_194_4 {ls : ab_L} {st : List Value} {w : ab_W} (h : ab_isI (ls 2) = true) : ab_Run ab_mt 194 4 ls st w = ab_Run ab_mt 194 5 ls (ab_gv (ls 2) :: st) w := E_loadi (n := 1) rfl h
theorem e_194_5 {ls : ab_L} {st : List Value} {w : ab_W} {v0 v1 v2 : Value} (h1 : ab_recv ab_mt 2 [v0, v1, v2] w.2 = true) (h8 : ab_w8 st = true) : ab_Run ab_mt 194 5 ls (v2 :: v1 :: v0 :: st) w = ab_aft 2 194 5 ls st (ab_Cl 2 [v0, v1, v2] w) := E_call3 rfl h1 h8
theorem e_194_8 {ls : ab_L} {st : List Value} {w : ab_W} {x : Int32} : ab_Run ab_mt 194 8 ls (.int x :: st) w = ab_Run ab_mt 194 9 ls (.long x.toInt64 :: st) w := E_i2l rfl
theorem e_194_9 {ls : ab_L} {st : List Value} {w : ab_W} {a : Nat} {i : Int32} {x : Int64} (h : ab_inL i (w.2 a) = true) : ab_Run ab_mt 194 9 ls (.long x :: .int i :: .ref a :: st) w = ab_Run ab_mt 194 10 ls st (w.1, ab_up w.2 a (ab_sL i.toNatClampNeg x (w.2 a))) := E_last rfl h
theorem e_194_10 {ls : ab_L} {st : List Value} {w : ab_W} : ab_Run ab_mt 194 10 ls st w = ab_Run ab_mt 194 21 ls st w := E_goto rfl
theorem e_194_13 {ls : ab_L} {st : List Value} {w : ab_W} {x : Nat} : ab_Run ab_mt 194 13 ls (.ref x :: st) w = ab_Run ab_mt 194 15 (ab_l1 ls 4 (.ref x)) st w := E_storr (n := 2) rfl
theorem e_194_15 {ls : ab_L} {st : List Value} {w : ab_W} : ab_Run ab_mt 194 15 ls st w = ab_Run ab_mt 194 16 ls (.int (nI 1) :: st) w := E_push (n := 1) rfl
theorem e_194_16 {ls : ab_L} {w : ab_W} {x : Int32} : ab_Run ab_mt 194 16 ls [.int x] w = some (.inl (some (.int x)), w) := E_reti rfl
theorem e_194_17 {ls : ab_L} {st : List Value} {w : ab_W} {x : Nat} : ab_Run ab_mt 194 17 ls (.ref x :: st) w = ab_Run ab_mt 194 19 (ab_l1 ls 4 (.ref x)) st w := E_storr (n := 2) rfl
theorem e_194_19 {ls : ab_L} {st : List Value} {w : ab_W} : ab_Run ab_mt 194 19 ls st w = ab_Run ab_mt 194 20 ls (.int (nI 2) :: st) w := E_push (n := 1) rfl
theorem e_194_20 {ls : ab_L} {w : ab_W} {x : Int32} : ab_Run ab_mt 194 20 ls [.int x] w = some (.inl (some (.int x)), w) := E_reti rfl
theorem e_194_21 {ls : ab_L} {st : List Value} {w : ab_W} : ab_Run ab_mt 194 21 ls st w = ab_Run ab_mt 194 22 ls (.int (nI 0) :: st) w := E_push (n := 1) rfl
theorem e_194_22 {ls : ab_L} {w : ab_W} {x : Int32} : ab_Run ab_mt 194 22 ls [.int x] w = some (.inl (some (.int x)), w) := E_reti rfl
theorem rv_194 {σ : ab_S} {x0 : Nat} {x1 : Int32} {x2 : Int32} {x3 : Nat} : ab_recv ab_mt 194 [.ref x0, .int x1, .int x2, .ref x3] σ = true := rfl
theorem xh_194_5_1 {ls : ab_L} {rest : List Value} {w : ab_W} : ab_aft 2 194 5 ls rest (some (.inr 1, w)) = ab_Run ab_mt 194 15 (fun _ => none) [] w := ab_aft_h rfl rfl
theorem xh_194_5_0 {ls : ab_L} {rest : List Value} {w : ab_W} : ab_aft 2 194 5 ls rest (some (.inr 0, w)) = ab_Run ab_mt 194 19 (fun _ => none) [] w := ab_aft_h rfl rfl
theorem e_195_0 {ls : ab_L} {st : List Value} {w : ab_W} (h : ab_isR (ls 4) = true) : ab_Run ab_mt 195 0 ls st w = ab_Run ab_mt 195 2 ls (ab_gv (ls 4) :: st) w := E_loadr (n := 2) rfl h
theorem e_195_2 {ls : ab_L} {st : List Value} {w : ab_W} : ab_Run ab_mt 195 2 ls st w = ab_Run ab_mt 195 3 ls (.int (nI 0) :: st) w := E_push (n := 1) rfl
theorem e_195_3 {ls : ab_L} {st : List Value} {w : ab_W} (h : ab_isR (ls 0) = true) : ab_Run ab_mt 195 3 ls st w = ab_Run ab_mt 195 4 ls (ab_gv (ls 0) :: st) w := E_loadr (n := 1) rfl h
theorem e_195_4 {ls : ab_L} {st : List Value} {w : ab_W} (h : ab_isI (ls 1) = true) : ab_Run ab_mt 195 4 ls st w = ab_Run ab_mt 195 5 ls (ab_gv (ls 1) :: st) w := E_loadi (n := 1) rfl h
theorem e_195_5 {ls : ab_L} {st : List Value} {w : ab_W} (h : ab_isI (ls 2) = true) : ab_Run ab_mt 195 5 ls st w = ab_Run ab_mt 195 6 ls (ab_gv (ls 2) :: st) w := E_loadi (n := 1) rfl h
theorem e_195_6 {ls : ab_L} {st : List Value} {w : ab_W} (h : ab_isI (ls 3) = true) : ab_Run ab_mt 195 6 ls st w = ab_Run ab_mt 195 7 ls (ab_gv (ls 3) :: st) w := E_loadi (n := 1) rfl h
theorem e_195_7 {ls : ab_L} {st : List Value} {w : ab_W} {v0 v1 v2 v3 : Value} (h1 : ab_recv ab_mt 3 [v0, v1, v2, v3] w.2 = true) (h8 : ab_w8 st = true) : ab_Run ab_mt 195 7 ls (v3 :: v2 :: v1 :: v0 :: st) w = ab_aft 3 195 7 ls st (ab_Cl 3 [v0, v1, v2, v3] w) := E_call4 rfl h1 h8
theorem e_195_10 {ls : ab_L} {st : List Value} {w : ab_W} {x : Int32} : ab_Run ab_mt 195 10 ls (.int x :: st) w = ab_Run ab_mt 195 11 ls (.long x.toInt64 :: st) w := E_i2l rfl
theorem e_195_11 {ls : ab_L} {st : List Value} {w : ab_W} {a : Nat} {i : Int32} {x : Int64} (h : ab_inL i (w.2 a) = true) : ab_Run ab_mt 195 11 ls (.long x :: .int i :: .ref a :: st) w = ab_Run ab_mt 195 12 ls st (w.1, ab_up w.2 a (ab_sL i.toNatClampNeg x (w.2 a))) := E_last rfl h
theorem e_195_12 {ls : ab_L} {st : List Value} {w : ab_W} : ab_Run ab_mt 195 12 ls st w = ab_Run ab_mt 195 27 ls st w := E_goto rfl
theorem e_195_15 {ls : ab_L} {st : List Value} {w : ab_W} {x : Nat} : ab_Run ab_mt 195 15 ls (.ref x :: st) w = ab_Run ab_mt 195 17 (ab_l1 ls 5 (.ref x)) st w := E_storr (n := 2) rfl
theorem e_195_17 {ls : ab_L} {st : List Value} {w : ab_W} : ab_Run ab_mt 195 17 ls st w = ab_Run ab_mt 195 18 ls (.int (nI 1) :: st) w := E_push (n := 1) rfl
theorem e_195_18 {ls : ab_L} {w : ab_W} {x : Int32} : ab_Run ab_mt 195 18 ls [.int x] w = some (.inl (some (.int x)), w) := E_reti rfl
theorem e_195_19 {ls : ab_L} {st : List Value} {w : ab_W} {x : Nat} : ab_Run ab_mt 195 19 ls (.ref x :: st) w = ab_Run ab_mt 195 21 (ab_l1 ls 5 (.ref x)) st w := E_storr (n := 2) rfl
theorem e_195_21 {ls : ab_L} {st : List Value} {w : ab_W} : ab_Run ab_mt 195 21 ls st w = ab_Run ab_mt 195 22 ls (.int (nI 2) :: st) w := E_push (n := 1) rfl
theorem e_195_22 {ls : ab_L} {w : ab_W} {x : Int32} : ab_Run ab_mt 195 22 ls [.int x] w = some (.inl (some (.int x)), w) := E_reti rfl
theorem e_195_23 {ls : ab_L} {st : List Value} {w : ab_W} {x : Nat} : ab_Run ab_mt 195 23 ls (.ref x :: st) w = ab_Run ab_mt 195 25 (ab_l1 ls 5 (.ref x)) st w := E_storr (n := 2) rfl
theorem e_195_25 {ls : ab_L} {st : List Value} {w : ab_W} : ab_Run ab_mt 195 25 ls st w = ab_Run ab_mt 195 26 ls (.int (nI 3) :: st) w := E_push (n := 1) rfl
theorem e_195_26 {ls : ab_L} {w : ab_W} {x : Int32} : ab_Run ab_mt 195 26 ls [.int x] w = some (.inl (some (.int x)), w) := E_reti rfl
theorem e_195_27 {ls : ab_L} {st : List Value} {w : ab_W} : ab_Run ab_mt 195 27 ls st w = ab_Run ab_mt 195 28 ls (.int (nI 0) :: st) w := E_push (n := 1) rfl
theorem e_195_28 {ls : ab_L} {w : ab_W} {x : Int32} : ab_Run ab_mt 195 28 ls [.int x] w = some (.inl (some (.int x)), w) := E_reti rfl
theorem rv_195 {σ : ab_S} {x0 : Nat} {x1 : Int32} {x2 : Int32} {x3 : Int32} {x4 : Nat} : ab_recv ab_mt 195 [.ref x0, .int x1, .int x2, .int x3, .ref x4] σ = true := rfl
theorem xh_195_7_2 {ls : ab_L} {rest : List Value} {w : ab_W} : ab_aft 3 195 7 ls rest (some (.inr 2, w)) = ab_Run ab_mt 195 17 (fun _ => none) [] w := ab_aft_h rfl rfl
theorem xh_195_7_1 {ls : ab_L} {rest : List Value} {w : ab_W} : ab_aft 3 195 7 ls rest (some (.inr 1, w)) = ab_Run ab_mt 195 21 (fun _ => none) [] w := ab_aft_h rfl rfl
theorem xh_195_7_0 {ls : ab_L} {rest : List Value} {w : ab_W} : ab_aft 3 195 7 ls rest (some (.inr 0, w)) = ab_Run ab_mt 195 25 (fun _ => none) [] w := ab_aft_h rfl rfl
theorem e_196_0 {ls : ab_L} {st : List Value} {w : ab_W} (h : ab_isR (ls 2) = true) : ab_Run ab_mt 196 0 ls st w = ab_Run ab_mt 196 1 ls (ab_gv (ls 2) :: st) w := E_loadr (n := 1) rfl h
theorem e_196_1 {ls : ab_L} {st : List Value} {w : ab_W} : ab_Run ab_mt 196 1 ls st w = ab_Run ab_mt 196 2 ls (.int (nI 0) :: st) w := E_push (n := 1) rfl
theorem e_196_2 {ls : ab_L} {st : List Value} {w : ab_W} (h : ab_isR (ls 0) = true) : ab_Run ab_mt 196 2 ls st w = ab_Run ab_mt 196 3 ls (ab_gv (ls 0) :: st) w := E_loadr (n := 1) rfl h
theorem e_196_3 {ls : ab_L} {st : List Value} {w : ab_W} (h : ab_isI (ls 1) = true) : ab_Run ab_mt 196 3 ls st w = ab_Run ab_mt 196 4 ls (ab_gv (ls 1) :: st) w := E_loadi (n := 1) rfl h
theorem e_196_4 {ls : ab_L} {st : List Value} {w : ab_W} {v0 v1 : Value} (h1 : ab_recv ab_mt 4 [v0, v1] w.2 = true) (h8 : ab_w8 st = true) : ab_Run ab_mt 196 4 ls (v1 :: v0 :: st) w = ab_aft 4 196 4 ls st (ab_Cl 4 [v0, v1] w) := E_call2 rfl h1 h8
theorem e_196_7 {ls : ab_L} {st : List Value} {w : ab_W} {x : Int32} : ab_Run ab_mt 196 7 ls (.int x :: st) w = ab_Run ab_mt 196 8 ls (.long x.toInt64 :: st) w := E_i2l rfl
theorem e_196_8 {ls : ab_L} {st : List Value} {w : ab_W} {a : Nat} {i : Int32} {x : Int64} (h : ab_inL i (w.2 a) = true) : ab_Run ab_mt 196 8 ls (.long x :: .int i :: .ref a :: st) w = ab_Run ab_mt 196 9 ls st (w.1, ab_up w.2 a (ab_sL i.toNatClampNeg x (w.2 a))) := E_last rfl h
theorem e_196_9 {ls : ab_L} {st : List Value} {w : ab_W} : ab_Run ab_mt 196 9 ls st w = ab_Run ab_mt 196 18 ls st w := E_goto rfl
theorem e_196_12 {ls : ab_L} {st : List Value} {w : ab_W} {x : Nat} : ab_Run ab_mt 196 12 ls (.ref x :: st) w = ab_Run ab_mt 196 13 (ab_l1 ls 3 (.ref x)) st w := E_storr (n := 1) rfl
theorem e_196_13 {ls : ab_L} {st : List Value} {w : ab_W} : ab_Run ab_mt 196 13 ls st w = ab_Run ab_mt 196 14 ls (.int (nI 1) :: st) w := E_push (n := 1) rfl
theorem e_196_14 {ls : ab_L} {w : ab_W} {x : Int32} : ab_Run ab_mt 196 14 ls [.int x] w = some (.inl (some (.int x)), w) := E_reti rfl
theorem e_196_15 {ls : ab_L} {st : List Value} {w : ab_W} {x : Nat} : ab_Run ab_mt 196 15 ls (.ref x :: st) w = ab_Run ab_mt 196 16 (ab_l1 ls 3 (.ref x)) st w := E_storr (n := 1) rfl
theorem e_196_16 {ls : ab_L} {st : List Value} {w : ab_W} : ab_Run ab_mt 196 16 ls st w = ab_Run ab_mt 196 17 ls (.int (nI 2) :: st) w := E_push (n := 1) rfl
theorem e_196_17 {ls : ab_L} {w : ab_W} {x : Int32} : ab_Run ab_mt 196 17 ls [.int x] w = some (.inl (some (.int x)), w) := E_reti rfl
theorem e_196_18 {ls : ab_L} {st : List Value} {w : ab_W} : ab_Run ab_mt 196 18 ls st w = ab_Run ab_mt 196 19 ls (.int (nI 0) :: st) w := E_push (n := 1) rfl
theorem e_196_19 {ls : ab_L} {w : ab_W} {x : Int32} : ab_Run ab_mt 196 19 ls [.int x] w = some (.inl (some (.int x)), w) := E_reti rfl
theorem rv_196 {σ : ab_S} {x0 : Nat} {x1 : Int32} {x2 : Nat} : ab_recv ab_mt 196 [.ref x0, .int x1, .ref x2] σ = true := rfl
theorem xh_196_4_2 {ls : ab_L} {rest : List Value} {w : ab_W} : ab_aft 4 196 4 ls rest (some (.inr 2, w)) = ab_Run ab_mt 196 13 (fun _ => none) [] w := ab_aft_h rfl rfl
theorem xh_196_4_0 {ls : ab_L} {rest : List Value} {w : ab_W} : ab_aft 4 196 4 ls rest (some (.inr 0, w)) = ab_Run ab_mt 196 16 (fun _ => none) [] w := ab_aft_h rfl rfl
theorem e_197_0 {ls : ab_L} {st : List Value} {w : ab_W} (h : ab_isR (ls 4) = true) : ab_Run ab_mt 197 0 ls st w = ab_Run ab_mt 197 2 ls (ab_gv (ls 4) :: st) w := E_loadr (n := 2) rfl h
theorem e_197_2 {ls : ab_L} {st : List Value} {w : ab_W} : ab_Run ab_mt 197 2 ls st w = ab_Run ab_mt 197 3 ls (.int (nI 0) :: st) w := E_push (n := 1) rfl
theorem e_197_3 {ls : ab_L} {st : List Value} {w : ab_W} (h : ab_isR (ls 0) = true) : ab_Run ab_mt 197 3 ls st w = ab_Run ab_mt 197 4 ls (ab_gv (ls 0) :: st) w := E_loadr (n := 1) rfl h
theorem e_197_4 {ls : ab_L} {st : List Value} {w : ab_W} (h : ab_isI (ls 1) = true) : ab_Run ab_mt 197 4 ls st w = ab_Run ab_mt 197 5 ls (ab_gv (ls 1) :: st) w := E_loadi (n := 1) rfl h
theorem e_197_5 {ls : ab_L} {st : List Value} {w : ab_W} (h : ab_isI (ls 2) = true) : ab_Run ab_mt 197 5 ls st w = ab_Run ab_mt 197 6 ls (ab_gv (ls 2) :: st) w := E_loadi (n := 1) rfl h
theorem e_197_6 {ls : ab_L} {st : List Value} {w : ab_W} (h : ab_isI (ls 3) = true) : ab_Run ab_mt 197 6 ls st w = ab_Run ab_mt 197 7 ls (ab_gv (ls 3) :: st) w := E_loadi (n := 1) rfl h
theorem e_197_7 {ls : ab_L} {st : List Value} {w : ab_W} {v0 v1 v2 v3 : Value} (h1 : ab_recv ab_mt 5 [v0, v1, v2, v3] w.2 = true) (h8 : ab_w8 st = true) : ab_Run ab_mt 197 7 ls (v3 :: v2 :: v1 :: v0 :: st) w = ab_aft 5 197 7 ls st (ab_Cl 5 [v0, v1, v2, v3] w) := E_call4 rfl h1 h8
theorem e_197_10 {ls : ab_L} {st : List Value} {w : ab_W} {x : Int32} : ab_Run ab_mt 197 10 ls (.int x :: st) w = ab_Run ab_mt 197 11 ls (.long x.toInt64 :: st) w := E_i2l rfl
theorem e_197_11 {ls : ab_L} {st : List Value} {w : ab_W} {a : Nat} {i : Int32} {x : Int64} (h : ab_inL i (w.2 a) = true) : ab_Run ab_mt 197 11 ls (.long x :: .int i :: .ref a :: st) w = ab_Run ab_mt 197 12 ls st (w.1, ab_up w.2 a (ab_sL i.toNatClampNeg x (w.2 a))) := E_last rfl h
theorem e_197_12 {ls : ab_L} {st : List Value} {w : ab_W} : ab_Run ab_mt 197 12 ls st w = ab_Run ab_mt 197 23 ls st w := E_goto rfl
theorem e_197_15 {ls : ab_L} {st : List Value} {w : ab_W} {x : Nat} : ab_Run ab_mt 197 15 ls (.ref x :: st) w = ab_Run ab_mt 197 17 (ab_l1 ls 5 (.ref x)) st w := E_storr (n := 2) rfl
theorem e_197_17 {ls : ab_L} {st : List Value} {w : ab_W} : ab_Run ab_mt 197 17 ls st w = ab_Run ab_mt 197 18 ls (.int (nI 1) :: st) w := E_push (n := 1) rfl
theorem e_197_18 {ls : ab_L} {w : ab_W} {x : Int32} : ab_Run ab_mt 197 18 ls [.int x] w = some (.inl (some (.int x)), w) := E_reti rfl
theorem e_197_19 {ls : ab_L} {st : List Value} {w : ab_W} {x : Nat} : ab_Run ab_mt 197 19 ls (.ref x :: st) w = ab_Run ab_mt 197 21 (ab_l1 ls 5 (.ref x)) st w := E_storr (n := 2) rfl
theorem e_197_21 {ls : ab_L} {st : List Value} {w : ab_W} : ab_Run ab_mt 197 21 ls st w = ab_Run ab_mt 197 22 ls (.int (nI 2) :: st) w := E_push (n := 1) rfl
theorem e_197_22 {ls : ab_L} {w : ab_W} {x : Int32} : ab_Run ab_mt 197 22 ls [.int x] w = some (.inl (some (.int x)), w) := E_reti rfl
theorem e_197_23 {ls : ab_L} {st : List Value} {w : ab_W} : ab_Run ab_mt 197 23 ls st w = ab_Run ab_mt 197 24 ls (.int (nI 0) :: st) w := E_push (n := 1) rfl
theorem e_197_24 {ls : ab_L} {w : ab_W} {x : Int32} : ab_Run ab_mt 197 24 ls [.int x] w = some (.inl (some (.int x)), w) := E_reti rfl
theorem rv_197 {σ : ab_S} {x0 : Nat} {x1 : Int32} {x2 : Int32} {x3 : Int32} {x4 : Nat} : ab_recv ab_mt 197 [.ref x0, .int x1, .int x2, .int x3, .ref x4] σ = true := rfl
theorem xh_197_7_1 {ls : ab_L} {rest : List Value} {w : ab_W} : ab_aft 5 197 7 ls rest (some (.inr 1, w)) = ab_Run ab_mt 197 17 (fun _ => none) [] w := ab_aft_h rfl rfl
theorem xh_197_7_0 {ls : ab_L} {rest : List Value} {w : ab_W} : ab_aft 5 197 7 ls rest (some (.inr 0, w)) = ab_Run ab_mt 197 21 (fun _ => none) [] w := ab_aft_h rfl rfl
theorem e_198_0 {ls : ab_L} {st : List Value} {w : ab_W} (h : ab_isR (ls 2) = true) : ab_Run ab_mt 198 0 ls st w = ab_Run ab_mt 198 1 ls (ab_gv (ls 2) :: st) w := E_loadr (n := 1) rfl h
theorem e_198_1 {ls : ab_L} {st : List Value} {w : ab_W} : ab_Run ab_mt 198 1 ls st w = ab_Run ab_mt 198 2 ls (.int (nI 0) :: st) w := E_push (n := 1) rfl
theorem e_198_2 {ls : ab_L} {st : List Value} {w : ab_W} (h : ab_isR (ls 0) = true) : ab_Run ab_mt 198 2 ls st w = ab_Run ab_mt 198 3 ls (ab_gv (ls 0) :: st) w := E_loadr (n := 1) rfl h
theorem e_198_3 {ls : ab_L} {st : List Value} {w : ab_W} (h : ab_isI (ls 1) = true) : ab_Run ab_mt 198 3 ls st w = ab_Run ab_mt 198 4 ls (ab_gv (ls 1) :: st) w := E_loadi (n := 1) rfl h
theorem e_198_4 {ls : ab_L} {st : List Value} {w : ab_W} {v0 v1 : Value} (h1 : ab_recv ab_mt 6 [v0, v1] w.2 = true) (h8 : ab_w8 st = true) : ab_Run ab_mt 198 4 ls (v1 :: v0 :: st) w = ab_aft 6 198 4 ls st (ab_Cl 6 [v0, v1] w) := E_call2 rfl h1 h8
theorem e_198_7 {ls : ab_L} {st : List Value} {w : ab_W} {x : Int32} : ab_Run ab_mt 198 7 ls (.int x :: st) w = ab_Run ab_mt 198 8 ls (.long x.toInt64 :: st) w := E_i2l rfl
theorem e_198_8 {ls : ab_L} {st : List Value} {w : ab_W} {a : Nat} {i : Int32} {x : Int64} (h : ab_inL i (w.2 a) = true) : ab_Run ab_mt 198 8 ls (.long x :: .int i :: .ref a :: st) w = ab_Run ab_mt 198 9 ls st (w.1, ab_up w.2 a (ab_sL i.toNatClampNeg x (w.2 a))) := E_last rfl h
theorem e_198_9 {ls : ab_L} {st : List Value} {w : ab_W} : ab_Run ab_mt 198 9 ls st w = ab_Run ab_mt 198 18 ls st w := E_goto rfl
theorem e_198_12 {ls : ab_L} {st : List Value} {w : ab_W} {x : Nat} : ab_Run ab_mt 198 12 ls (.ref x :: st) w = ab_Run ab_mt 198 13 (ab_l1 ls 3 (.ref x)) st w := E_storr (n := 1) rfl
theorem e_198_13 {ls : ab_L} {st : List Value} {w : ab_W} : ab_Run ab_mt 198 13 ls st w = ab_Run ab_mt 198 14 ls (.int (nI 1) :: st) w := E_push (n := 1) rfl
theorem e_198_14 {ls : ab_L} {w : ab_W} {x : Int32} : ab_Run ab_mt 198 14 ls [.int x] w = some (.inl (some (.int x)), w) := E_reti rfl
theorem e_198_15 {ls : ab_L} {st : List Value} {w : ab_W} {x : Nat} : ab_Run ab_mt 198 15 ls (.ref x :: st) w = ab_Run ab_mt 198 16 (ab_l1 ls 3 (.ref x)) st w := E_storr (n := 1) rfl
theorem e_198_16 {ls : ab_L} {st : List Value} {w : ab_W} : ab_Run ab_mt 198 16 ls st w = ab_Run ab_mt 198 17 ls (.int (nI 2) :: st) w := E_push (n := 1) rfl
theorem e_198_17 {ls : ab_L} {w : ab_W} {x : Int32} : ab_Run ab_mt 198 17 ls [.int x] w = some (.inl (some (.int x)), w) := E_reti rfl
theorem e_198_18 {ls : ab_L} {st : List Value} {w : ab_W} : ab_Run ab_mt 198 18 ls st w = ab_Run ab_mt 198 19 ls (.int (nI 0) :: st) w := E_push (n := 1) rfl
theorem e_198_19 {ls : ab_L} {w : ab_W} {x : Int32} : ab_Run ab_mt 198 19 ls [.int x] w = some (.inl (some (.int x)), w) := E_reti rfl
theorem rv_198 {σ : ab_S} {x0 : Nat} {x1 : Int32} {x2 : Nat} : ab_recv ab_mt 198 [.ref x0, .int x1, .ref x2] σ = true := rfl
theorem xh_198_4_2 {ls : ab_L} {rest : List Value} {w : ab_W} : ab_aft 6 198 4 ls rest (some (.inr 2, w)) = ab_Run ab_mt 198 13 (fun _ => none) [] w := ab_aft_h rfl rfl
theorem xh_198_4_0 {ls : ab_L} {rest : List Value} {w : ab_W} : ab_aft 6 198 4 ls rest (some (.inr 0, w)) = ab_Run ab_mt 198 16 (fun _ => none) [] w := ab_aft_h rfl rfl
theorem e_199_0 {ls : ab_L} {st : List Value} {w : ab_W} (h : ab_isR (ls 4) = true) : ab_Run ab_mt 199 0 ls st w = ab_Run ab_mt 199 2 ls (ab_gv (ls 4) :: st) w := E_loadr (n := 2) rfl h
theorem e_199_2 {ls : ab_L} {st : List Value} {w : ab_W} : ab_Run ab_mt 199 2 ls st w = ab_Run ab_mt 199 3 ls (.int (nI 0) :: st) w := E_push (n := 1) rfl
theorem e_199_3 {ls : ab_L} {st : List Value} {w : ab_W} (h : ab_isR (ls 0) = true) : ab_Run ab_mt 199 3 ls st w = ab_Run ab_mt 199 4 ls (ab_gv (ls 0) :: st) w := E_loadr (n := 1) rfl h
theorem e_199_4 {ls : ab_L} {st : List Value} {w : ab_W} (h : ab_isI (ls 1) = true) : ab_Run ab_mt 199 4 ls st w = ab_Run ab_mt 199 5 ls (ab_gv (ls 1) :: st) w := E_loadi (n := 1) rfl h
theorem e_199_5 {ls : ab_L} {st : List Value} {w : ab_W} (h : ab_isI (ls 2) = true) : ab_Run ab_mt 199 5 ls st w = ab_Run ab_mt 199 6 ls (ab_gv (ls 2) :: st) w := E_loadi (n := 1) rfl h
theorem e_199_6 {ls : ab_L} {st : List Value} {w : ab_W} (h : ab_isI (ls 3) = true) : ab_Run ab_mt 199 6 ls st w = ab_Run ab_mt 199 7 ls (ab_gv (ls 3) :: st) w := E_loadi (n := 1) rfl h
theorem e_199_7 {ls : ab_L} {st : List Value} {w : ab_W} {v0 v1 v2 v3 : Value} (h1 : ab_recv ab_mt 7 [v0, v1, v2, v3] w.2 = true) (h8 : ab_w8 st = true) : ab_Run ab_mt 199 7 ls (v3 :: v2 :: v1 :: v0 :: st) w = ab_aft 7 199 7 ls st (ab_Cl 7 [v0, v1, v2, v3] w) := E_call4 rfl h1 h8
theorem e_199_10 {ls : ab_L} {st : List Value} {w : ab_W} {x : Int32} : ab_Run ab_mt 199 10 ls (.int x :: st) w = ab_Run ab_mt 199 11 ls (.long x.toInt64 :: st) w := E_i2l rfl
theorem e_199_11 {ls : ab_L} {st : List Value} {w : ab_W} {a : Nat} {i : Int32} {x : Int64} (h : ab_inL i (w.2 a) = true) : ab_Run ab_mt 199 11 ls (.long x :: .int i :: .ref a :: st) w = ab_Run ab_mt 199 12 ls st (w.1, ab_up w.2 a (ab_sL i.toNatClampNeg x (w.2 a))) := E_last rfl h
theorem e_199_12 {ls : ab_L} {st : List Value} {w : ab_W} : ab_Run ab_mt 199 12 ls st w = ab_Run ab_mt 199 27 ls st w := E_goto rfl
theorem e_199_15 {ls : ab_L} {st : List Value} {w : ab_W} {x : Nat} : ab_Run ab_mt 199 15 ls (.ref x :: st) w = ab_Run ab_mt 199 17 (ab_l1 ls 5 (.ref x)) st w := E_storr (n := 2) rfl
theorem e_199_17 {ls : ab_L} {st : List Value} {w : ab_W} : ab_Run ab_mt 199 17 ls st w = ab_Run ab_mt 199 18 ls (.int (nI 1) :: st) w := E_push (n := 1) rfl
theorem e_199_18 {ls : ab_L} {w : ab_W} {x : Int32} : ab_Run ab_mt 199 18 ls [.int x] w = some (.inl (some (.int x)), w) := E_reti rfl
theorem e_199_19 {ls : ab_L} {st : List Value} {w : ab_W} {x : Nat} : ab_Run ab_mt 199 19 ls (.ref x :: st) w = ab_Run ab_mt 199 21 (ab_l1 ls 5 (.ref x)) st w := E_storr (n := 2) rfl
theorem e_199_21 {ls : ab_L} {st : List Value} {w : ab_W} : ab_Run ab_mt 199 21 ls st w = ab_Run ab_mt 199 22 ls (.int (nI 2) :: st) w := E_push (n := 1) rfl
theorem e_199_22 {ls : ab_L} {w : ab_W} {x : Int32} : ab_Run ab_mt 199 22 ls [.int x] w = some (.inl (some (.int x)), w) := E_reti rfl
theorem e_199_23 {ls : ab_L} {st : List Value} {w : ab_W} {x : Nat} : ab_Run ab_mt 199 23 ls (.ref x :: st) w = ab_Run ab_mt 199 25 (ab_l1 ls 5 (.ref x)) st w := E_storr (n := 2) rfl
theorem e_199_25 {ls : ab_L} {st : List Value} {w : ab_W} : ab_Run ab_mt 199 25 ls st w = ab_Run ab_mt 199 26 ls (.int (nI 3) :: st) w := E_push (n := 1) rfl
theorem e_199_26 {ls : ab_L} {w : ab_W} {x : Int32} : ab_Run ab_mt 199 26 ls [.int x] w = some (.inl (some (.int x)), w) := E_reti rfl
theorem e_199_27 {ls : ab_L} {st : List Value} {w : ab_W} : ab_Run ab_mt 199 27 ls st w = ab_Run ab_mt 199 28 ls (.int (nI 0) :: st) w := E_push (n := 1) rfl
theorem e_199_28 {ls : ab_L} {w : ab_W} {x : Int32} : ab_Run ab_mt 199 28 ls [.int x] w = some (.inl (some (.int x)), w) := E_reti rfl
theorem rv_199 {σ : ab_S} {x0 : Nat} {x1 : Int32} {x2 : Int32} {x3 : Int32} {x4 : Nat} : ab_recv ab_mt 199 [.ref x0, .int x1, .int x2, .int x3, .ref x4] σ = true := rfl
theorem xh_199_7_2 {ls : ab_L} {rest : List Value} {w : ab_W} : ab_aft 7 199 7 ls rest (some (.inr 2, w)) = ab_Run ab_mt 199 17 (fun _ => none) [] w := ab_aft_h rfl rfl
theorem xh_199_7_1 {ls : ab_L} {rest : List Value} {w : ab_W} : ab_aft 7 199 7 ls rest (some (.inr 1, w)) = ab_Run ab_mt 199 21 (fun _ => none) [] w := ab_aft_h rfl rfl
theorem xh_199_7_0 {ls : ab_L} {rest : List Value} {w : ab_W} : ab_aft 7 199 7 ls rest (some (.inr 0, w)) = ab_Run ab_mt 199 25 (fun _ => none) [] w := ab_aft_h rfl rfl
theorem e_200_0 {ls : ab_L} {st : List Value} {w : ab_W} (h : ab_isR (ls 2) = true) : ab_Run ab_mt 200 0 ls st w = ab_Run ab_mt 200 1 ls (ab_gv (ls 2) :: st) w := E_loadr (n := 1) rfl h
theorem e_200_1 {ls : ab_L} {st : List Value} {w : ab_W} : ab_Run ab_mt 200 1 ls st w = ab_Run ab_mt 200 2 ls (.int (nI 0) :: st) w := E_push (n := 1) rfl
theorem e_200_2 {ls : ab_L} {st : List Value} {w : ab_W} (h : ab_isR (ls 0) = true) : ab_Run ab_mt 200 2 ls st w = ab_Run ab_mt 200 3 ls (ab_gv (ls 0) :: st) w := E_loadr (n := 1) rfl h
theorem e_200_3 {ls : ab_L} {st : List Value} {w : ab_W} (h : ab_isI (ls 1) = true) : ab_Run ab_mt 200 3 ls st w = ab_Run ab_mt 200 4 ls (ab_gv (ls 1) :: st) w := E_loadi (n := 1) rfl h
theorem e_200_4 {ls : ab_L} {st : List Value} {w : ab_W} {v0 v1 : Value} (h1 : ab_recv ab_mt 8 [v0, v1] w.2 = true) (h8 : ab_w8 st = true) : ab_Run ab_mt 200 4 ls (v1 :: v0 :: st) w = ab_aft 8 200 4 ls st (ab_Cl 8 [v0, v1] w) := E_call2 rfl h1 h8
theorem e_200_7 {ls : ab_L} {st : List Value} {w : ab_W} {x : Int32} : ab_Run ab_mt 200 7 ls (.int x :: st) w = ab_Run ab_mt 200 8 ls (.long x.toInt64 :: st) w := E_i2l rfl
theorem e_200_8 {ls : ab_L} {st : List Value} {w : ab_W} {a : Nat} {i : Int32} {x : Int64} (h : ab_inL i (w.2 a) = true) : ab_Run ab_mt 200 8 ls (.long x :: .int i :: .ref a :: st) w = ab_Run ab_mt 200 9 ls st (w.1, ab_up w.2 a (ab_sL i.toNatClampNeg x (w.2 a))) := E_last rfl h
theorem e_200_9 {ls : ab_L} {st : List Value} {w : ab_W} : ab_Run ab_mt 200 9 ls st w = ab_Run ab_mt 200 18 ls st w := E_goto rfl
theorem e_200_12 {ls : ab_L} {st : List Value} {w : ab_W} {x : Nat} : ab_Run ab_mt 200 12 ls (.ref x :: st) w = ab_Run ab_mt 200 13 (ab_l1 ls 3 (.ref x)) st w := E_storr (n := 1) rfl
theorem e_200_13 {ls : ab_L} {st : List Value} {w : ab_W} : ab_Run ab_mt 200 13 ls st w = ab_Run ab_mt 200 14 ls (.int (nI 1) :: st) w := E_push (n := 1) rfl
theorem e_200_14 {ls : ab_L} {w : ab_W} {x : Int32} : ab_Run ab_mt 200 14 ls [.int x] w = some (.inl (some (.int x)), w) := E_reti rfl
theorem e_200_15 {ls : ab_L} {st : List Value} {w : ab_W} {x : Nat} : ab_Run ab_mt 200 15 ls (.ref x :: st) w = ab_Run ab_mt 200 16 (ab_l1 ls 3 (.ref x)) st w := E_storr (n := 1) rfl
theorem e_200_16 {ls : ab_L} {st : List Value} {w : ab_W} : ab_Run ab_mt 200 16 ls st w = ab_Run ab_mt 200 17 ls (.int (nI 2) :: st) w := E_push (n := 1) rfl
theorem e_200_17 {ls : ab_L} {w : ab_W} {x : Int32} : ab_Run ab_mt 200 17 ls [.int x] w = some (.inl (some (.int x)), w) := E_reti rfl
theorem e_200_18 {ls : ab_L} {st : List Value} {w : ab_W} : ab_Run ab_mt 200 18 ls st w = ab_Run ab_mt 200 19 ls (.int (nI 0) :: st) w := E_push (n := 1) rfl
theorem e_200_19 {ls : ab_L} {w : ab_W} {x : Int32} : ab_Run ab_mt 200 19 ls [.int x] w = some (.inl (some (.int x)), w) := E_reti rfl
theorem rv_200 {σ : ab_S} {x0 : Nat} {x1 : Int32} {x2 : Nat} : ab_recv ab_mt 200 [.ref x0, .int x1, .ref x2] σ = true := rfl
theorem xh_200_4_2 {ls : ab_L} {rest : List Value} {w : ab_W} : ab_aft 8 200 4 ls rest (some (.inr 2, w)) = ab_Run ab_mt 200 13 (fun _ => none) [] w := ab_aft_h rfl rfl
theorem xh_200_4_0 {ls : ab_L} {rest : List Value} {w : ab_W} : ab_aft 8 200 4 ls rest (some (.inr 0, w)) = ab_Run ab_mt 200 16 (fun _ => none) [] w := ab_aft_h rfl rfl
theorem e_201_0 {ls : ab_L} {st : List Value} {w : ab_W} (h : ab_isR (ls 1) = true) : ab_Run ab_mt 201 0 ls st w = ab_Run ab_mt 201 1 ls (ab_gv (ls 1) :: st) w := E_loadr (n := 1) rfl h
theorem e_201_1 {ls : ab_L} {st : List Value} {w : ab_W} : ab_Run ab_mt 201 1 ls st w = ab_Run ab_mt 201 2 ls (.int (nI 0) :: st) w := E_push (n := 1) rfl
theorem e_201_2 {ls : ab_L} {st : List Value} {w : ab_W} (h : ab_isR (ls 0) = true) : ab_Run ab_mt 201 2 ls st w = ab_Run ab_mt 201 3 ls (ab_gv (ls 0) :: st) w := E_loadr (n := 1) rfl h
theorem e_201_3 {ls : ab_L} {st : List Value} {w : ab_W} {v0 : Value} (h1 : ab_recv ab_mt 9 [v0] w.2 = true) (h8 : ab_w8 st = true) : ab_Run ab_mt 201 3 ls (v0 :: st) w = ab_aft 9 201 3 ls st (ab_Cl 9 [v0] w) := E_call1 rfl h1 h8
theorem e_201_6 {ls : ab_L} {st : List Value} {w : ab_W} {x : Int32} : ab_Run ab_mt 201 6 ls (.int x :: st) w = ab_Run ab_mt 201 7 ls (.long x.toInt64 :: st) w := E_i2l rfl
theorem e_201_7 {ls : ab_L} {st : List Value} {w : ab_W} {a : Nat} {i : Int32} {x : Int64} (h : ab_inL i (w.2 a) = true) : ab_Run ab_mt 201 7 ls (.long x :: .int i :: .ref a :: st) w = ab_Run ab_mt 201 8 ls st (w.1, ab_up w.2 a (ab_sL i.toNatClampNeg x (w.2 a))) := E_last rfl h
theorem e_201_8 {ls : ab_L} {st : List Value} {w : ab_W} : ab_Run ab_mt 201 8 ls st w = ab_Run ab_mt 201 17 ls st w := E_goto rfl
theorem e_201_11 {ls : ab_L} {st : List Value} {w : ab_W} {x : Nat} : ab_Run ab_mt 201 11 ls (.ref x :: st) w = ab_Run ab_mt 201 12 (ab_l1 ls 2 (.ref x)) st w := E_storr (n := 1) rfl
theorem e_201_12 {ls : ab_L} {st : List Value} {w : ab_W} : ab_Run ab_mt 201 12 ls st w = ab_Run ab_mt 201 13 ls (.int (nI 1) :: st) w := E_push (n := 1) rfl
theorem e_201_13 {ls : ab_L} {w : ab_W} {x : Int32} : ab_Run ab_mt 201 13 ls [.int x] w = some (.inl (some (.int x)), w) := E_reti rfl
theorem e_201_14 {ls : ab_L} {st : List Value} {w : ab_W} {x : Nat} : ab_Run ab_mt 201 14 ls (.ref x :: st) w = ab_Run ab_mt 201 15 (ab_l1 ls 2 (.ref x)) st w := E_storr (n := 1) rfl
theorem e_201_15 {ls : ab_L} {st : List Value} {w : ab_W} : ab_Run ab_mt 201 15 ls st w = ab_Run ab_mt 201 16 ls (.int (nI 2) :: st) w := E_push (n := 1) rfl
theorem e_201_16 {ls : ab_L} {w : ab_W} {x : Int32} : ab_Run ab_mt 201 16 ls [.int x] w = some (.inl (some (.int x)), w) := E_reti rfl
theorem e_201_17 {ls : ab_L} {st : List Value} {w : ab_W} : ab_Run ab_mt 201 17 ls st w = ab_Run ab_mt 201 18 ls (.int (nI 0) :: st) w := E_push (n := 1) rfl
theorem e_201_18 {ls : ab_L} {w : ab_W} {x : Int32} : ab_Run ab_mt 201 18 ls [.int x] w = some (.inl (some (.int x)), w) := E_reti rfl
theorem rv_201 {σ : ab_S} {x0 : Nat} {x1 : Nat} : ab_recv ab_mt 201 [.ref x0, .ref x1] σ = true := rfl
theorem xh_201_3_1 {ls : ab_L} {rest : List Value} {w : ab_W} : ab_aft 9 201 3 ls rest (some (.inr 1, w)) = ab_Run ab_mt 201 12 (fun _ => none) [] w := ab_aft_h rfl rfl
theorem xh_201_3_0 {ls : ab_L} {rest : List Value} {w : ab_W} : ab_aft 9 201 3 ls rest (some (.inr 0, w)) = ab_Run ab_mt 201 15 (fun _ => none) [] w := ab_aft_h rfl rfl
theorem e_202_0 {ls : ab_L} {st : List Value} {w : ab_W} (h : ab_isR (ls 1) = true) : ab_Run ab_mt 202 0 ls st w = ab_Run ab_mt 202 1 ls (ab_gv (ls 1) :: st) w := E_loadr (n := 1) rfl h
theorem e_202_1 {ls : ab_L} {st : List Value} {w : ab_W} : ab_Run ab_mt 202 1 ls st w = ab_Run ab_mt 202 2 ls (.int (nI 0) :: st) w := E_push (n := 1) rfl
theorem e_202_2 {ls : ab_L} {st : List Value} {w : ab_W} (h : ab_isR (ls 0) = true) : ab_Run ab_mt 202 2 ls st w = ab_Run ab_mt 202 3 ls (ab_gv (ls 0) :: st) w := E_loadr (n := 1) rfl h
theorem e_202_3 {ls : ab_L} {st : List Value} {w : ab_W} {v0 : Value} (h1 : ab_recv ab_mt 10 [v0] w.2 = true) (h8 : ab_w8 st = true) : ab_Run ab_mt 202 3 ls (v0 :: st) w = ab_aft 10 202 3 ls st (ab_Cl 10 [v0] w) := E_call1 rfl h1 h8
theorem e_202_6 {ls : ab_L} {st : List Value} {w : ab_W} {x : Int32} : ab_Run ab_mt 202 6 ls (.int x :: st) w = ab_Run ab_mt 202 7 ls (.long x.toInt64 :: st) w := E_i2l rfl
theorem e_202_7 {ls : ab_L} {st : List Value} {w : ab_W} {a : Nat} {i : Int32} {x : Int64} (h : ab_inL i (w.2 a) = true) : ab_Run ab_mt 202 7 ls (.long x :: .int i :: .ref a :: st) w = ab_Run ab_mt 202 8 ls st (w.1, ab_up w.2 a (ab_sL i.toNatClampNeg x (w.2 a))) := E_last rfl h
theorem e_202_8 {ls : ab_L} {st : List Value} {w : ab_W} : ab_Run ab_mt 202 8 ls st w = ab_Run ab_mt 202 14 ls st w := E_goto rfl
theorem e_202_11 {ls : ab_L} {st : List Value} {w : ab_W} {x : Nat} : ab_Run ab_mt 202 11 ls (.ref x :: st) w = ab_Run ab_mt 202 12 (ab_l1 ls 2 (.ref x)) st w := E_storr (n := 1) rfl
theorem e_202_12 {ls : ab_L} {st : List Value} {w : ab_W} : ab_Run ab_mt 202 12 ls st w = ab_Run ab_mt 202 13 ls (.int (nI 1) :: st) w := E_push (n := 1) rfl
theorem e_202_13 {ls : ab_L} {w : ab_W} {x : Int32} : ab_Run ab_mt 202 13 ls [.int x] w = some (.inl (some (.int x)), w) := E_reti rfl
theorem e_202_14 {ls : ab_L} {st : List Value} {w : ab_W} : ab_Run ab_mt 202 14 ls st w = ab_Run ab_mt 202 15 ls (.int (nI 0) :: st) w := E_push (n := 1) rfl
theorem e_202_15 {ls : ab_L} {w : ab_W} {x : Int32} : ab_Run ab_mt 202 15 ls [.int x] w = some (.inl (some (.int x)), w) := E_reti rfl
theorem rv_202 {σ : ab_S} {x0 : Nat} {x1 : Nat} : ab_recv ab_mt 202 [.ref x0, .ref x1] σ = true := rfl
theorem xh_202_3_0 {ls : ab_L} {rest : List Value} {w : ab_W} : ab_aft 10 202 3 ls rest (some (.inr 0, w)) = ab_Run ab_mt 202 12 (fun _ => none) [] w := ab_aft_h rfl rfl
theorem e_203_0 {ls : ab_L} {st : List Value} {w : ab_W} (h : ab_isR (ls 2) = true) : ab_Run ab_mt 203 0 ls st w = ab_Run ab_mt 203 1 ls (ab_gv (ls 2) :: st) w := E_loadr (n := 1) rfl h
theorem e_203_1 {ls : ab_L} {st : List Value} {w : ab_W} : ab_Run ab_mt 203 1 ls st w = ab_Run ab_mt 203 2 ls (.int (nI 0) :: st) w := E_push (n := 1) rfl
theorem e_203_2 {ls : ab_L} {st : List Value} {w : ab_W} (h : ab_isR (ls 0) = true) : ab_Run ab_mt 203 2 ls st w = ab_Run ab_mt 203 3 ls (ab_gv (ls 0) :: st) w := E_loadr (n := 1) rfl h
theorem e_203_3 {ls : ab_L} {st : List Value} {w : ab_W} (h : ab_isI (ls 1) = true) : ab_Run ab_mt 203 3 ls st w = ab_Run ab_mt 203 4 ls (ab_gv (ls 1) :: st) w := E_loadi (n := 1) rfl h
theorem e_203_4 {ls : ab_L} {st : List Value} {w : ab_W} {v0 v1 : Value} (h1 : ab_recv ab_mt 11 [v0, v1] w.2 = true) (h8 : ab_w8 st = true) : ab_Run ab_mt 203 4 ls (v1 :: v0 :: st) w = ab_aft 11 203 4 ls st (ab_Cl 11 [v0, v1] w) := E_call2 rfl h1 h8
theorem e_203_7 {ls : ab_L} {st : List Value} {w : ab_W} {x : Int32} : ab_Run ab_mt 203 7 ls (.int x :: st) w = ab_Run ab_mt 203 8 ls (.long x.toInt64 :: st) w := E_i2l rfl
theorem e_203_8 {ls : ab_L} {st : List Value} {w : ab_W} {a : Nat} {i : Int32} {x : Int64} (h : ab_inL i (w.2 a) = true) : ab_Run ab_mt 203 8 ls (.long x :: .int i :: .ref a :: st) w = ab_Run ab_mt 203 9 ls st (w.1, ab_up w.2 a (ab_sL i.toNatClampNeg x (w.2 a))) := E_last rfl h
theorem e_203_9 {ls : ab_L} {st : List Value} {w : ab_W} : ab_Run ab_mt 203 9 ls st w = ab_Run ab_mt 203 15 ls st w := E_goto rfl
theorem e_203_12 {ls : ab_L} {st : List Value} {w : ab_W} {x : Nat} : ab_Run ab_mt 203 12 ls (.ref x :: st) w = ab_Run ab_mt 203 13 (ab_l1 ls 3 (.ref x)) st w := E_storr (n := 1) rfl
theorem e_203_13 {ls : ab_L} {st : List Value} {w : ab_W} : ab_Run ab_mt 203 13 ls st w = ab_Run ab_mt 203 14 ls (.int (nI 1) :: st) w := E_push (n := 1) rfl
theorem e_203_14 {ls : ab_L} {w : ab_W} {x : Int32} : ab_Run ab_mt 203 14 ls [.int x] w = some (.inl (some (.int x)), w) := E_reti rfl
theorem e_203_15 {ls : ab_L} {st : List Value} {w : ab_W} : ab_Run ab_mt 203 15 ls st w = ab_Run ab_mt 203 16 ls (.int (nI 0) :: st) w := E_push (n := 1) rfl
theorem e_203_16 {ls : ab_L} {w : ab_W} {x : Int32} : ab_Run ab_mt 203 16 ls [.int x] w = some (.inl (some (.int x)), w) := E_reti rfl
theorem rv_203 {σ : ab_S} {x0 : Nat} {x1 : Int32} {x2 : Nat} : ab_recv ab_mt 203 [.ref x0, .int x1, .ref x2] σ = true := rfl
theorem xh_203_4_2 {ls : ab_L} {rest : List Value} {w : ab_W} : ab_aft 11 203 4 ls rest (some (.inr 2, w)) = ab_Run ab_mt 203 13 (fun _ => none) [] w := ab_aft_h rfl rfl
theorem e_204_0 {ls : ab_L} {st : List Value} {w : ab_W} (h : ab_isR (ls 2) = true) : ab_Run ab_mt 204 0 ls st w = ab_Run ab_mt 204 1 ls (ab_gv (ls 2) :: st) w := E_loadr (n := 1) rfl h
theorem e_204_1 {ls : ab_L} {st : List Value} {w : ab_W} : ab_Run ab_mt 204 1 ls st w = ab_Run ab_mt 204 2 ls (.int (nI 0) :: st) w := E_push (n := 1) rfl
theorem e_204_2 {ls : ab_L} {st : List Value} {w : ab_W} (h : ab_isR (ls 0) = true) : ab_Run ab_mt 204 2 ls st w = ab_Run ab_mt 204 3 ls (ab_gv (ls 0) :: st) w := E_loadr (n := 1) rfl h
theorem e_204_3 {ls : ab_L} {st : List Value} {w : ab_W} (h : ab_isI (ls 1) = true) : ab_Run ab_mt 204 3 ls st w = ab_Run ab_mt 204 4 ls (ab_gv (ls 1) :: st) w := E_loadi (n := 1) rfl h
theorem e_204_4 {ls : ab_L} {st : List Value} {w : ab_W} {v0 v1 : Value} (h1 : ab_recv ab_mt 12 [v0, v1] w.2 = true) (h8 : ab_w8 st = true) : ab_Run ab_mt 204 4 ls (v1 :: v0 :: st) w = ab_aft 12 204 4 ls st (ab_Cl 12 [v0, v1] w) := E_call2 rfl h1 h8
theorem e_204_7 {ls : ab_L} {st : List Value} {w : ab_W} {x : Int32} : ab_Run ab_mt 204 7 ls (.int x :: st) w = ab_Run ab_mt 204 8 ls (.long x.toInt64 :: st) w := E_i2l rfl
theorem e_204_8 {ls : ab_L} {st : List Value} {w : ab_W} {a : Nat} {i : Int32} {x : Int64} (h : ab_inL i (w.2 a) = true) : ab_Run ab_mt 204 8 ls (.long x :: .int i :: .ref a :: st) w = ab_Run ab_mt 204 9 ls st (w.1, ab_up w.2 a (ab_sL i.toNatClampNeg x (w.2 a))) := E_last rfl h
theorem e_204_9 {ls : ab_L} {st : List Value} {w : ab_W} : ab_Run ab_mt 204 9 ls st w = ab_Run ab_mt 204 18 ls st w := E_goto rfl
theorem e_204_12 {ls : ab_L} {st : List Value} {w : ab_W} {x : Nat} : ab_Run ab_mt 204 12 ls (.ref x :: st) w = ab_Run ab_mt 204 13 (ab_l1 ls 3 (.ref x)) st w := E_storr (n := 1) rfl
theorem e_204_13 {ls : ab_L} {st : List Value} {w : ab_W} : ab_Run ab_mt 204 13 ls st w = ab_Run ab_mt 204 14 ls (.int (nI 1) :: st) w := E_push (n := 1) rfl
theorem e_204_14 {ls : ab_L} {w : ab_W} {x : Int32} : ab_Run ab_mt 204 14 ls [.int x] w = some (.inl (some (.int x)), w) := E_reti rfl
theorem e_204_15 {ls : ab_L} {st : List Value} {w : ab_W} {x : Nat} : ab_Run ab_mt 204 15 ls (.ref x :: st) w = ab_Run ab_mt 204 16 (ab_l1 ls 3 (.ref x)) st w := E_storr (n := 1) rfl
theorem e_204_16 {ls : ab_L} {st : List Value} {w : ab_W} : ab_Run ab_mt 204 16 ls st w = ab_Run ab_mt 204 17 ls (.int (nI 2) :: st) w := E_push (n := 1) rfl
theorem e_204_17 {ls : ab_L} {w : ab_W} {x : Int32} : ab_Run ab_mt 204 17 ls [.int x] w = some (.inl (some (.int x)), w) := E_reti rfl
theorem e_204_18 {ls : ab_L} {st : List Value} {w : ab_W} : ab_Run ab_mt 204 18 ls st w = ab_Run ab_mt 204 19 ls (.int (nI 0) :: st) w := E_push (n := 1) rfl
theorem e_204_19 {ls : ab_L} {w : ab_W} {x : Int32} : ab_Run ab_mt 204 19 ls [.int x] w = some (.inl (some (.int x)), w) := E_reti rfl
theorem rv_204 {σ : ab_S} {x0 : Nat} {x1 : Int32} {x2 : Nat} : ab_recv ab_mt 204 [.ref x0, .int x1, .ref x2] σ = true := rfl
theorem xh_204_4_2 {ls : ab_L} {rest : List Value} {w : ab_W} : ab_aft 12 204 4 ls rest (some (.inr 2, w)) = ab_Run ab_mt 204 13 (fun _ => none) [] w := ab_aft_h rfl rfl
theorem xh_204_4_0 {ls : ab_L} {rest : List Value} {w : ab_W} : ab_aft 12 204 4 ls rest (some (.inr 0, w)) = ab_Run ab_mt 204 16 (fun _ => none) [] w := ab_aft_h rfl rfl
theorem e_205_0 {ls : ab_L} {st : List Value} {w : ab_W} (h : ab_isR (ls 2) = true) : ab_Run ab_mt 205 0 ls st w = ab_Run ab_mt 205 1 ls (ab_gv (ls 2) :: st) w := E_loadr (n := 1) rfl h
theorem e_205_1 {ls : ab_L} {st : List Value} {w : ab_W} : ab_Run ab_mt 205 1 ls st w = ab_Run ab_mt 205 2 ls (.int (nI 0) :: st) w := E_push (n := 1) rfl
theorem e_205_2 {ls : ab_L} {st : List Value} {w : ab_W} (h : ab_isR (ls 0) = true) : ab_Run ab_mt 205 2 ls st w = ab_Run ab_mt 205 3 ls (ab_gv (ls 0) :: st) w := E_loadr (n := 1) rfl h
theorem e_205_3 {ls : ab_L} {st : List Value} {w : ab_W} (h : ab_isI (ls 1) = true) : ab_Run ab_mt 205 3 ls st w = ab_Run ab_mt 205 4 ls (ab_gv (ls 1) :: st) w := E_loadi (n := 1) rfl h
theorem e_205_4 {ls : ab_L} {st : List Value} {w : ab_W} {v0 v1 : Value} (h1 : ab_recv ab_mt 13 [v0, v1] w.2 = true) (h8 : ab_w8 st = true) : ab_Run ab_mt 205 4 ls (v1 :: v0 :: st) w = ab_aft 13 205 4 ls st (ab_Cl 13 [v0, v1] w) := E_call2 rfl h1 h8
theorem e_205_7 {ls : ab_L} {st : List Value} {w : ab_W} {x : Int32} : ab_Run ab_mt 205 7 ls (.int x :: st) w = ab_Run ab_mt 205 8 ls (.long x.toInt64 :: st) w := E_i2l rfl
theorem e_205_8 {ls : ab_L} {st : List Value} {w : ab_W} {a : Nat} {i : Int32} {x : Int64} (h : ab_inL i (w.2 a) = true) : ab_Run ab_mt 205 8 ls (.long x :: .int i :: .ref a :: st) w = ab_Run ab_mt 205 9 ls st (w.1, ab_up w.2 a (ab_sL i.toNatClampNeg x (w.2 a))) := E_last rfl h
theorem e_205_9 {ls : ab_L} {st : List Value} {w : ab_W} : ab_Run ab_mt 205 9 ls st w = ab_Run ab_mt 205 18 ls st w := E_goto rfl
theorem e_205_12 {ls : ab_L} {st : List Value} {w : ab_W} {x : Nat} : ab_Run ab_mt 205 12 ls (.ref x :: st) w = ab_Run ab_mt 205 13 (ab_l1 ls 3 (.ref x)) st w := E_storr (n := 1) rfl
theorem e_205_13 {ls : ab_L} {st : List Value} {w : ab_W} : ab_Run ab_mt 205 13 ls st w = ab_Run ab_mt 205 14 ls (.int (nI 1) :: st) w := E_push (n := 1) rfl
theorem e_205_14 {ls : ab_L} {w : ab_W} {x : Int32} : ab_Run ab_mt 205 14 ls [.int x] w = some (.inl (some (.int x)), w) := E_reti rfl
theorem e_205_15 {ls : ab_L} {st : List Value} {w : ab_W} {x : Nat} : ab_Run ab_mt 205 15 ls (.ref x :: st) w = ab_Run ab_mt 205 16 (ab_l1 ls 3 (.ref x)) st w := E_storr (n := 1) rfl
theorem e_205_16 {ls : ab_L} {st : List Value} {w : ab_W} : ab_Run ab_mt 205 16 ls st w = ab_Run ab_mt 205 17 ls (.int (nI 2) :: st) w := E_push (n := 1) rfl
theorem e_205_17 {ls : ab_L} {w : ab_W} {x : Int32} : ab_Run ab_mt 205 17 ls [.int x] w = some (.inl (some (.int x)), w) := E_reti rfl
theorem e_205_18 {ls : ab_L} {st : List Value} {w : ab_W} : ab_Run ab_mt 205 18 ls st w = ab_Run ab_mt 205 19 ls (.int (nI 0) :: st) w := E_push (n := 1) rfl
theorem e_205_19 {ls : ab_L} {w : ab_W} {x : Int32} : ab_Run ab_mt 205 19 ls [.int x] w = some (.inl (some (.int x)), w) := E_reti rfl
theorem rv_205 {σ : ab_S} {x0 : Nat} {x1 : Int32} {x2 : Nat} : ab_recv ab_mt 205 [.ref x0, .int x1, .ref x2] σ = true := rfl
theorem xh_205_4_1 {ls : ab_L} {rest : List Value} {w : ab_W} : ab_aft 13 205 4 ls rest (some (.inr 1, w)) = ab_Run ab_mt 205 13 (fun _ => none) [] w := ab_aft_h rfl rfl
theorem xh_205_4_0 {ls : ab_L} {rest : List Value} {w : ab_W} : ab_aft 13 205 4 ls rest (some (.inr 0, w)) = ab_Run ab_mt 205 16 (fun _ => none) [] w := ab_aft_h rfl rfl
theorem e_206_0 {ls : ab_L} {st : List Value} {w : ab_W} (h : ab_isR (ls 4) = true) : ab_Run ab_mt 206 0 ls st w = ab_Run ab_mt 206 2 ls (ab_gv (ls 4) :: st) w := E_loadr (n := 2) rfl h
theorem e_206_2 {ls : ab_L} {st : List Value} {w : ab_W} : ab_Run ab_mt 206 2 ls st w = ab_Run ab_mt 206 3 ls (.int (nI 0) :: st) w := E_push (n := 1) rfl
theorem e_206_3 {ls : ab_L} {st : List Value} {w : ab_W} (h : ab_isR (ls 0) = true) : ab_Run ab_mt 206 3 ls st w = ab_Run ab_mt 206 4 ls (ab_gv (ls 0) :: st) w := E_loadr (n := 1) rfl h
theorem e_206_4 {ls : ab_L} {st : List Value} {w : ab_W} (h : ab_isI (ls 1) = true) : ab_Run ab_mt 206 4 ls st w = ab_Run ab_mt 206 5 ls (ab_gv (ls 1) :: st) w := E_loadi (n := 1) rfl h
theorem e_206_5 {ls : ab_L} {st : List Value} {w : ab_W} (h : ab_isI (ls 2) = true) : ab_Run ab_mt 206 5 ls st w = ab_Run ab_mt 206 6 ls (ab_gv (ls 2) :: st) w := E_loadi (n := 1) rfl h
theorem e_206_6 {ls : ab_L} {st : List Value} {w : ab_W} (h : ab_isI (ls 3) = true) : ab_Run ab_mt 206 6 ls st w = ab_Run ab_mt 206 7 ls (ab_gv (ls 3) :: st) w := E_loadi (n := 1) rfl h
theorem e_206_7 {ls : ab_L} {st : List Value} {w : ab_W} {v0 v1 v2 v3 : Value} (h1 : ab_recv ab_mt 16 [v0, v1, v2, v3] w.2 = true) (h8 : ab_w8 st = true) : ab_Run ab_mt 206 7 ls (v3 :: v2 :: v1 :: v0 :: st) w = ab_aft 16 206 7 ls st (ab_Cl 16 [v0, v1, v2, v3] w) := E_call4 rfl h1 h8
theorem e_206_10 {ls : ab_L} {st : List Value} {w : ab_W} {a : Nat} {i : Int32} {x : Int64} (h : ab_inL i (w.2 a) = true) : ab_Run ab_mt 206 10 ls (.long x :: .int i :: .ref a :: st) w = ab_Run ab_mt 206 11 ls st (w.1, ab_up w.2 a (ab_sL i.toNatClampNeg x (w.2 a))) := E_last rfl h
theorem e_206_11 {ls : ab_L} {st : List Value} {w : ab_W} : ab_Run ab_mt 206 11 ls st w = ab_Run ab_mt 206 26 ls st w := E_goto rfl
theorem e_206_14 {ls : ab_L} {st : List Value} {w : ab_W} {x : Nat} : ab_Run ab_mt 206 14 ls (.ref x :: st) w = ab_Run ab_mt 206 16 (ab_l1 ls 5 (.ref x)) st w := E_storr (n := 2) rfl
theorem e_206_16 {ls : ab_L} {st : List Value} {w : ab_W} : ab_Run ab_mt 206 16 ls st w = ab_Run ab_mt 206 17 ls (.int (nI 1) :: st) w := E_push (n := 1) rfl
theorem e_206_17 {ls : ab_L} {w : ab_W} {x : Int32} : ab_Run ab_mt 206 17 ls [.int x] w = some (.inl (some (.int x)), w) := E_reti rfl
theorem e_206_18 {ls : ab_L} {st : List Value} {w : ab_W} {x : Nat} : ab_Run ab_mt 206 18 ls (.ref x :: st) w = ab_Run ab_mt 206 20 (ab_l1 ls 5 (.ref x)) st w := E_storr (n := 2) rfl
theorem e_206_20 {ls : ab_L} {st : List Value} {w : ab_W} : ab_Run ab_mt 206 20 ls st w = ab_Run ab_mt 206 21 ls (.int (nI 2) :: st) w := E_push (n := 1) rfl
theorem e_206_21 {ls : ab_L} {w : ab_W} {x : Int32} : ab_Run ab_mt 206 21 ls [.int x] w = some (.inl (some (.int x)), w) := E_reti rfl
theorem e_206_22 {ls : ab_L} {st : List Value} {w : ab_W} {x : Nat} : ab_Run ab_mt 206 22 ls (.ref x :: st) w = ab_Run ab_mt 206 24 (ab_l1 ls 5 (.ref x)) st w := E_storr (n := 2) rfl
theorem e_206_24 {ls : ab_L} {st : List Value} {w : ab_W} : ab_Run ab_mt 206 24 ls st w = ab_Run ab_mt 206 25 ls (.int (nI 3) :: st) w := E_push (n := 1) rfl
theorem e_206_25 {ls : ab_L} {w : ab_W} {x : Int32} : ab_Run ab_mt 206 25 ls [.int x] w = some (.inl (some (.int x)), w) := E_reti rfl
theorem e_206_26 {ls : ab_L} {st : List Value} {w : ab_W} : ab_Run ab_mt 206 26 ls st w = ab_Run ab_mt 206 27 ls (.int (nI 0) :: st) w := E_push (n := 1) rfl
theorem e_206_27 {ls : ab_L} {w : ab_W} {x : Int32} : ab_Run ab_mt 206 27 ls [.int x] w = some (.inl (some (.int x)), w) := E_reti rfl
theorem rv_206 {σ : ab_S} {x0 : Nat} {x1 : Int32} {x2 : Int32} {x3 : Int32} {x4 : Nat} : ab_recv ab_mt 206 [.ref x0, .int x1, .int x2, .int x3, .ref x4] σ = true := rfl
theorem xh_206_7_2 {ls : ab_L} {rest : List Value} {w : ab_W} : ab_aft 16 206 7 ls rest (some (.inr 2, w)) = ab_Run ab_mt 206 16 (fun _ => none) [] w := ab_aft_h rfl rfl
theorem xh_206_7_1 {ls : ab_L} {rest : List Value} {w : ab_W} : ab_aft 16 206 7 ls rest (some (.inr 1, w)) = ab_Run ab_mt 206 20 (fun _ => none) [] w := ab_aft_h rfl rfl
theorem xh_206_7_0 {ls : ab_L} {rest : List Value} {w : ab_W} : ab_aft 16 206 7 ls rest (some (.inr 0, w)) = ab_Run ab_mt 206 24 (fun _ => none) [] w := ab_aft_h rfl rfl
theorem e_207_0 {ls : ab_L} {st : List Value} {w : ab_W} (h : ab_isR (ls 2) = true) : ab_Run ab_mt 207 0 ls st w = ab_Run ab_mt 207 1 ls (ab_gv (ls 2) :: st) w := E_loadr (n := 1) rfl h
theorem e_207_1 {ls : ab_L} {st : List Value} {w : ab_W} : ab_Run ab_mt 207 1 ls st w = ab_Run ab_mt 207 2 ls (.int (nI 0) :: st) w := E_push (n := 1) rfl
theorem e_207_2 {ls : ab_L} {st : List Value} {w : ab_W} (h : ab_isR (ls 0) = true) : ab_Run ab_mt 207 2 ls st w = ab_Run ab_mt 207 3 ls (ab_gv (ls 0) :: st) w := E_loadr (n := 1) rfl h
theorem e_207_3 {ls : ab_L} {st : List Value} {w : ab_W} (h : ab_isI (ls 1) = true) : ab_Run ab_mt 207 3 ls st w = ab_Run ab_mt 207 4 ls (ab_gv (ls 1) :: st) w := E_loadi (n := 1) rfl h
theorem e_207_4 {ls : ab_L} {st : List Value} {w : ab_W} {v0 v1 : Value} (h1 : ab_recv ab_mt 17 [v0, v1] w.2 = true) (h8 : ab_w8 st = true) : ab_Run ab_mt 207 4 ls (v1 :: v0 :: st) w = ab_aft 17 207 4 ls st (ab_Cl 17 [v0, v1] w) := E_call2 rfl h1 h8
theorem e_207_7 {ls : ab_L} {st : List Value} {w : ab_W} {x : Int32} : ab_Run ab_mt 207 7 ls (.int x :: st) w = ab_Run ab_mt 207 8 ls (.long x.toInt64 :: st) w := E_i2l rfl
theorem e_207_8 {ls : ab_L} {st : List Value} {w : ab_W} {a : Nat} {i : Int32} {x : Int64} (h : ab_inL i (w.2 a) = true) : ab_Run ab_mt 207 8 ls (.long x :: .int i :: .ref a :: st) w = ab_Run ab_mt 207 9 ls st (w.1, ab_up w.2 a (ab_sL i.toNatClampNeg x (w.2 a))) := E_last rfl h
theorem e_207_9 {ls : ab_L} {st : List Value} {w : ab_W} : ab_Run ab_mt 207 9 ls st w = ab_Run ab_mt 207 18 ls st w := E_goto rfl
theorem e_207_12 {ls : ab_L} {st : List Value} {w : ab_W} {x : Nat} : ab_Run ab_mt 207 12 ls (.ref x :: st) w = ab_Run ab_mt 207 13 (ab_l1 ls 3 (.ref x)) st w := E_storr (n := 1) rfl
theorem e_207_13 {ls : ab_L} {st : List Value} {w : ab_W} : ab_Run ab_mt 207 13 ls st w = ab_Run ab_mt 207 14 ls (.int (nI 1) :: st) w := E_push (n := 1) rfl
theorem e_207_14 {ls : ab_L} {w : ab_W} {x : Int32} : ab_Run ab_mt 207 14 ls [.int x] w = some (.inl (some (.int x)), w) := E_reti rfl
theorem e_207_15 {ls : ab_L} {st : List Value} {w : ab_W} {x : Nat} : ab_Run ab_mt 207 15 ls (.ref x :: st) w = ab_Run ab_mt 207 16 (ab_l1 ls 3 (.ref x)) st w := E_storr (n := 1) rfl
theorem e_207_16 {ls : ab_L} {st : List Value} {w : ab_W} : ab_Run ab_mt 207 16 ls st w = ab_Run ab_mt 207 17 ls (.int (nI 2) :: st) w := E_push (n := 1) rfl
theorem e_207_17 {ls : ab_L} {w : ab_W} {x : Int32} : ab_Run ab_mt 207 17 ls [.int x] w = some (.inl (some (.int x)), w) := E_reti rfl
theorem e_207_18 {ls : ab_L} {st : List Value} {w : ab_W} : ab_Run ab_mt 207 18 ls st w = ab_Run ab_mt 207 19 ls (.int (nI 0) :: st) w := E_push (n := 1) rfl
theorem e_207_19 {ls : ab_L} {w : ab_W} {x : Int32} : ab_Run ab_mt 207 19 ls [.int x] w = some (.inl (some (.int x)), w) := E_reti rfl
theorem rv_207 {σ : ab_S} {x0 : Nat} {x1 : Int32} {x2 : Nat} : ab_recv ab_mt 207 [.ref x0, .int x1, .ref x2] σ = true := rfl
theorem xh_207_4_1 {ls : ab_L} {rest : List Value} {w : ab_W} : ab_aft 17 207 4 ls rest (some (.inr 1, w)) = ab_Run ab_mt 207 13 (fun _ => none) [] w := ab_aft_h rfl rfl
theorem xh_207_4_0 {ls : ab_L} {rest : List Value} {w : ab_W} : ab_aft 17 207 4 ls rest (some (.inr 0, w)) = ab_Run ab_mt 207 16 (fun _ => none) [] w := ab_aft_h rfl rfl
theorem e_208_0 {ls : ab_L} {st : List Value} {w : ab_W} (h : ab_isR (ls 1) = true) : ab_Run ab_mt 208 0 ls st w = ab_Run ab_mt 208 1 ls (ab_gv (ls 1) :: st) w := E_loadr (n := 1) rfl h
theorem e_208_1 {ls : ab_L} {st : List Value} {w : ab_W} : ab_Run ab_mt 208 1 ls st w = ab_Run ab_mt 208 2 ls (.int (nI 0) :: st) w := E_push (n := 1) rfl
theorem e_208_2 {ls : ab_L} {st : List Value} {w : ab_W} (h : ab_isR (ls 0) = true) : ab_Run ab_mt 208 2 ls st w = ab_Run ab_mt 208 3 ls (ab_gv (ls 0) :: st) w := E_loadr (n := 1) rfl h
theorem e_208_3 {ls : ab_L} {st : List Value} {w : ab_W} {v0 : Value} (h1 : ab_recv ab_mt 18 [v0] w.2 = true) (h8 : ab_w8 st = true) : ab_Run ab_mt 208 3 ls (v0 :: st) w = ab_aft 18 208 3 ls st (ab_Cl 18 [v0] w) := E_call1 rfl h1 h8
theorem e_208_6 {ls : ab_L} {st : List Value} {w : ab_W} {a : Nat} {i : Int32} {x : Int64} (h : ab_inL i (w.2 a) = true) : ab_Run ab_mt 208 6 ls (.long x :: .int i :: .ref a :: st) w = ab_Run ab_mt 208 7 ls st (w.1, ab_up w.2 a (ab_sL i.toNatClampNeg x (w.2 a))) := E_last rfl h
theorem e_208_7 {ls : ab_L} {st : List Value} {w : ab_W} : ab_Run ab_mt 208 7 ls st w = ab_Run ab_mt 208 13 ls st w := E_goto rfl
theorem e_208_10 {ls : ab_L} {st : List Value} {w : ab_W} {x : Nat} : ab_Run ab_mt 208 10 ls (.ref x :: st) w = ab_Run ab_mt 208 11 (ab_l1 ls 2 (.ref x)) st w := E_storr (n := 1) rfl
theorem e_208_11 {ls : ab_L} {st : List Value} {w : ab_W} : ab_Run ab_mt 208 11 ls st w = ab_Run ab_mt 208 12 ls (.int (nI 1) :: st) w := E_push (n := 1) rfl
theorem e_208_12 {ls : ab_L} {w : ab_W} {x : Int32} : ab_Run ab_mt 208 12 ls [.int x] w = some (.inl (some (.int x)), w) := E_reti rfl
theorem e_208_13 {ls : ab_L} {st : List Value} {w : ab_W} : ab_Run ab_mt 208 13 ls st w = ab_Run ab_mt 208 14 ls (.int (nI 0) :: st) w := E_push (n := 1) rfl
theorem e_208_14 {ls : ab_L} {w : ab_W} {x : Int32} : ab_Run ab_mt 208 14 ls [.int x] w = some (.inl (some (.int x)), w) := E_reti rfl
theorem rv_208 {σ : ab_S} {x0 : Nat} {x1 : Nat} : ab_recv ab_mt 208 [.ref x0, .ref x1] σ = true := rfl
theorem xh_208_3_0 {ls : ab_L} {rest : List Value} {w : ab_W} : ab_aft 18 208 3 ls rest (some (.inr 0, w)) = ab_Run ab_mt 208 11 (fun _ => none) [] w := ab_aft_h rfl rfl
theorem e_209_0 {ls : ab_L} {st : List Value} {w : ab_W} (h : ab_isR (ls 2) = true) : ab_Run ab_mt 209 0 ls st w = ab_Run ab_mt 209 1 ls (ab_gv (ls 2) :: st) w := E_loadr (n := 1) rfl h
theorem e_209_1 {ls : ab_L} {st : List Value} {w : ab_W} : ab_Run ab_mt 209 1 ls st w = ab_Run ab_mt 209 2 ls (.int (nI 0) :: st) w := E_push (n := 1) rfl
theorem e_209_2 {ls : ab_L} {st : List Value} {w : ab_W} (h : ab_isR (ls 0) = true) : ab_Run ab_mt 209 2 ls st w = ab_Run ab_mt 209 3 ls (ab_gv (ls 0) :: st) w := E_loadr (n := 1) rfl h
theorem e_209_3 {ls : ab_L} {st : List Value} {w : ab_W} (h : ab_isI (ls 1) = true) : ab_Run ab_mt 209 3 ls st w = ab_Run ab_mt 209 4 ls (ab_gv (ls 1) :: st) w := E_loadi (n := 1) rfl h
theorem e_209_4 {ls : ab_L} {st : List Value} {w : ab_W} {v0 v1 : Value} (h1 : ab_recv ab_mt 19 [v0, v1] w.2 = true) (h8 : ab_w8 st = true) : ab_Run ab_mt 209 4 ls (v1 :: v0 :: st) w = ab_aft 19 209 4 ls st (ab_Cl 19 [v0, v1] w) := E_call2 rfl h1 h8
theorem e_209_7 {ls : ab_L} {st : List Value} {w : ab_W} {a : Nat} {i : Int32} {x : Int64} (h : ab_inL i (w.2 a) = true) : ab_Run ab_mt 209 7 ls (.long x :: .int i :: .ref a :: st) w = ab_Run ab_mt 209 8 ls st (w.1, ab_up w.2 a (ab_sL i.toNatClampNeg x (w.2 a))) := E_last rfl h
theorem e_209_8 {ls : ab_L} {st : List Value} {w : ab_W} : ab_Run ab_mt 209 8 ls st w = ab_Run ab_mt 209 14 ls st w := E_goto rfl
theorem e_209_11 {ls : ab_L} {st : List Value} {w : ab_W} {x : Nat} : ab_Run ab_mt 209 11 ls (.ref x :: st) w = ab_Run ab_mt 209 12 (ab_l1 ls 3 (.ref x)) st w := E_storr (n := 1) rfl
theorem e_209_12 {ls : ab_L} {st : List Value} {w : ab_W} : ab_Run ab_mt 209 12 ls st w = ab_Run ab_mt 209 13 ls (.int (nI 1) :: st) w := E_push (n := 1) rfl
theorem e_209_13 {ls : ab_L} {w : ab_W} {x : Int32} : ab_Run ab_mt 209 13 ls [.int x] w = some (.inl (some (.int x)), w) := E_reti rfl
theorem e_209_14 {ls : ab_L} {st : List Value} {w : ab_W} : ab_Run ab_mt 209 14 ls st w = ab_Run ab_mt 209 15 ls (.int (nI 0) :: st) w := E_push (n := 1) rfl
theorem e_209_15 {ls : ab_L} {w : ab_W} {x : Int32} : ab_Run ab_mt 209 15 ls [.int x] w = some (.inl (some (.int x)), w) := E_reti rfl
theorem rv_209 {σ : ab_S} {x0 : Nat} {x1 : Int32} {x2 : Nat} : ab_recv ab_mt 209 [.ref x0, .int x1, .ref x2] σ = true := rfl
theorem xh_209_4_1 {ls : ab_L} {rest : List Value} {w : ab_W} : ab_aft 19 209 4 ls rest (some (.inr 1, w)) = ab_Run ab_mt 209 12 (fun _ => none) [] w := ab_aft_h rfl rfl
theorem e_210_0 {ls : ab_L} {st : List Value} {w : ab_W} (h : ab_isR (ls 3) = true) : ab_Run ab_mt 210 0 ls st w = ab_Run ab_mt 210 1 ls (ab_gv (ls 3) :: st) w := E_loadr (n := 1) rfl h
theorem e_210_1 {ls : ab_L} {st : List Value} {w : ab_W} : ab_Run ab_mt 210 1 ls st w = ab_Run ab_mt 210 2 ls (.int (nI 0) :: st) w := E_push (n := 1) rfl
theorem e_210_2 {ls : ab_L} {st : List Value} {w : ab_W} (h : ab_isR (ls 0) = true) : ab_Run ab_mt 210 2 ls st w = ab_Run ab_mt 210 3 ls (ab_gv (ls 0) :: st) w := E_loadr (n := 1) rfl h
theorem e_210_3 {ls : ab_L} {st : List Value} {w : ab_W} (h : ab_isI (ls 1) = true) : ab_Run ab_mt 210 3 ls st w = ab_Run ab_mt 210 4 ls (ab_gv (ls 1) :: st) w := E_loadi (n := 1) rfl h
theorem e_210_4 {ls : ab_L} {st : List Value} {w : ab_W} (h : ab_isI (ls 2) = true) : ab_Run ab_mt 210 4 ls st w = ab_Run ab_mt 210 5 ls (ab_gv (ls 2) :: st) w := E_loadi (n := 1) rfl h
theorem e_210_5 {ls : ab_L} {st : List Value} {w : ab_W} {v0 v1 v2 : Value} (h1 : ab_recv ab_mt 20 [v0, v1, v2] w.2 = true) (h8 : ab_w8 st = true) : ab_Run ab_mt 210 5 ls (v2 :: v1 :: v0 :: st) w = ab_aft 20 210 5 ls st (ab_Cl 20 [v0, v1, v2] w) := E_call3 rfl h1 h8
theorem e_210_8 {ls : ab_L} {st : List Value} {w : ab_W} {x : Int32} : ab_Run ab_mt 210 8 ls (.int x :: st) w = ab_Run ab_mt 210 9 ls (.long x.toInt64 :: st) w := E_i2l rfl
theorem e_210_9 {ls : ab_L} {st : List Value} {w : ab_W} {a : Nat} {i : Int32} {x : Int64} (h : ab_inL i (w.2 a) = true) : ab_Run ab_mt 210 9 ls (.long x :: .int i :: .ref a :: st) w = ab_Run ab_mt 210 10 ls st (w.1, ab_up w.2 a (ab_sL i.toNatClampNeg x (w.2 a))) := E_last rfl h
theorem e_210_10 {ls : ab_L} {st : List Value} {w : ab_W} : ab_Run ab_mt 210 10 ls st w = ab_Run ab_mt 210 21 ls st w := E_goto rfl
theorem e_210_13 {ls : ab_L} {st : List Value} {w : ab_W} {x : Nat} : ab_Run ab_mt 210 13 ls (.ref x :: st) w = ab_Run ab_mt 210 15 (ab_l1 ls 4 (.ref x)) st w := E_storr (n := 2) rfl
theorem e_210_15 {ls : ab_L} {st : List Value} {w : ab_W} : ab_Run ab_mt 210 15 ls st w = ab_Run ab_mt 210 16 ls (.int (nI 1) :: st) w := E_push (n := 1) rfl
theorem e_210_16 {ls : ab_L} {w : ab_W} {x : Int32} : ab_Run ab_mt 210 16 ls [.int x] w = some (.inl (some (.int x)), w) := E_reti rfl
theorem e_210_17 {ls : ab_L} {st : List Value} {w : ab_W} {x : Nat} : ab_Run ab_mt 210 17 ls (.ref x :: st) w = ab_Run ab_mt 210 19 (ab_l1 ls 4 (.ref x)) st w := E_storr (n := 2) rfl
theorem e_210_19 {ls : ab_L} {st : List Value} {w : ab_W} : ab_Run ab_mt 210 19 ls st w = ab_Run ab_mt 210 20 ls (.int (nI 2) :: st) w := E_push (n := 1) rfl
theorem e_210_20 {ls : ab_L} {w : ab_W} {x : Int32} : ab_Run ab_mt 210 20 ls [.int x] w = some (.inl (some (.int x)), w) := E_reti rfl
theorem e_210_21 {ls : ab_L} {st : List Value} {w : ab_W} : ab_Run ab_mt 210 21 ls st w = ab_Run ab_mt 210 22 ls (.int (nI 0) :: st) w := E_push (n := 1) rfl
theorem e_210_22 {ls : ab_L} {w : ab_W} {x : Int32} : ab_Run ab_mt 210 22 ls [.int x] w = some (.inl (some (.int x)), w) := E_reti rfl
theorem rv_210 {σ : ab_S} {x0 : Nat} {x1 : Int32} {x2 : Int32} {x3 : Nat} : ab_recv ab_mt 210 [.ref x0, .int x1, .int x2, .ref x3] σ = true := rfl
theorem xh_210_5_2 {ls : ab_L} {rest : List Value} {w : ab_W} : ab_aft 20 210 5 ls rest (some (.inr 2, w)) = ab_Run ab_mt 210 15 (fun _ => none) [] w := ab_aft_h rfl rfl
theorem xh_210_5_1 {ls : ab_L} {rest : List Value} {w : ab_W} : ab_aft 20 210 5 ls rest (some (.inr 1, w)) = ab_Run ab_mt 210 19 (fun _ => none) [] w := ab_aft_h rfl rfl
theorem e_211_0 {ls : ab_L} {st : List Value} {w : ab_W} (h : ab_isR (ls 3) = true) : ab_Run ab_mt 211 0 ls st w = ab_Run ab_mt 211 1 ls (ab_gv (ls 3) :: st) w := E_loadr (n := 1) rfl h
theorem e_211_1 {ls : ab_L} {st : List Value} {w : ab_W} : ab_Run ab_mt 211 1 ls st w = ab_Run ab_mt 211 2 ls (.int (nI 0) :: st) w := E_push (n := 1) rfl
theorem e_211_2 {ls : ab_L} {st : List Value} {w : ab_W} (h : ab_isR (ls 0) = true) : ab_Run ab_mt 211 2 ls st w = ab_Run ab_mt 211 3 ls (ab_gv (ls 0) :: st) w := E_loadr (n := 1) rfl h
theorem e_211_3 {ls : ab_L} {st : List Value} {w : ab_W} (h : ab_isI (ls 1) = true) : ab_Run ab_mt 211 3 ls st w = ab_Run ab_mt 211 4 ls (ab_gv (ls 1) :: st) w := E_loadi (n := 1) rfl h
theorem e_211_4 {ls : ab_L} {st : List Value} {w : ab_W} (h : ab_isI (ls 2) = true) : ab_Run ab_mt 211 4 ls st w = ab_Run ab_mt 211 5 ls (ab_gv (ls 2) :: st) w := E_loadi (n := 1) rfl h
theorem e_211_5 {ls : ab_L} {st : List Value} {w : ab_W} {v0 v1 v2 : Value} (h1 : ab_recv ab_mt 21 [v0, v1, v2] w.2 = true) (h8 : ab_w8 st = true) : ab_Run ab_mt 211 5 ls (v2 :: v1 :: v0 :: st) w = ab_aft 21 211 5 ls st (ab_Cl 21 [v0, v1, v2] w) := E_call3 rfl h1 h8
theorem e_211_8 {ls : ab_L} {st : List Value} {w : ab_W} {a : Nat} {i : Int32} {x : Int64} (h : ab_inL i (w.2 a) = true) : ab_Run ab_mt 211 8 ls (.long x :: .int i :: .ref a :: st) w = ab_Run ab_mt 211 9 ls st (w.1, ab_up w.2 a (ab_sL i.toNatClampNeg x (w.2 a))) := E_last rfl h
theorem e_211_9 {ls : ab_L} {st : List Value} {w : ab_W} : ab_Run ab_mt 211 9 ls st w = ab_Run ab_mt 211 20 ls st w := E_goto rfl
theorem e_211_12 {ls : ab_L} {st : List Value} {w : ab_W} {x : Nat} : ab_Run ab_mt 211 12 ls (.ref x :: st) w = ab_Run ab_mt 211 14 (ab_l1 ls 4 (.ref x)) st w := E_storr (n := 2) rfl
theorem e_211_14 {ls : ab_L} {st : List Value} {w : ab_W} : ab_Run ab_mt 211 14 ls st w = ab_Run ab_mt 211 15 ls (.int (nI 1) :: st) w := E_push (n := 1) rfl
theorem e_211_15 {ls : ab_L} {w : ab_W} {x : Int32} : ab_Run ab_mt 211 15 ls [.int x] w = some (.inl (some (.int x)), w) := E_reti rfl
theorem e_211_16 {ls : ab_L} {st : List Value} {w : ab_W} {x : Nat} : ab_Run ab_mt 211 16 ls (.ref x :: st) w = ab_Run ab_mt 211 18 (ab_l1 ls 4 (.ref x)) st w := E_storr (n := 2) rfl
theorem e_211_18 {ls : ab_L} {st : List Value} {w : ab_W} : ab_Run ab_mt 211 18 ls st w = ab_Run ab_mt 211 19 ls (.int (nI 2) :: st) w := E_push (n := 1) rfl
theorem e_211_19 {ls : ab_L} {w : ab_W} {x : Int32} : ab_Run ab_mt 211 19 ls [.int x] w = some (.inl (some (.int x)), w) := E_reti rfl
theorem e_211_20 {ls : ab_L} {st : List Value} {w : ab_W} : ab_Run ab_mt 211 20 ls st w = ab_Run ab_mt 211 21 ls (.int (nI 0) :: st) w := E_push (n := 1) rfl
theorem e_211_21 {ls : ab_L} {w : ab_W} {x : Int32} : ab_Run ab_mt 211 21 ls [.int x] w = some (.inl (some (.int x)), w) := E_reti rfl
theorem rv_211 {σ : ab_S} {x0 : Nat} {x1 : Int32} {x2 : Int32} {x3 : Nat} : ab_recv ab_mt 211 [.ref x0, .int x1, .int x2, .ref x3] σ = true := rfl
theorem xh_211_5_2 {ls : ab_L} {rest : List Value} {w : ab_W} : ab_aft 21 211 5 ls rest (some (.inr 2, w)) = ab_Run ab_mt 211 14 (fun _ => none) [] w := ab_aft_h rfl rfl
theorem xh_211_5_1 {ls : ab_L} {rest : List Value} {w : ab_W} : ab_aft 21 211 5 ls rest (some (.inr 1, w)) = ab_Run ab_mt 211 18 (fun _ => none) [] w := ab_aft_h rfl rfl
theorem e_212_0 {ls : ab_L} {st : List Value} {w : ab_W} (h : ab_isR (ls 3) = true) : ab_Run ab_mt 212 0 ls st w = ab_Run ab_mt 212 1 ls (ab_gv (ls 3) :: st) w := E_loadr (n := 1) rfl h
theorem e_212_1 {ls : ab_L} {st : List Value} {w : ab_W} : ab_Run ab_mt 212 1 ls st w = ab_Run ab_mt 212 2 ls (.int (nI 0) :: st) w := E_push (n := 1) rfl
theorem e_212_2 {ls : ab_L} {st : List Value} {w : ab_W} (h : ab_isR (ls 0) = true) : ab_Run ab_mt 212 2 ls st w = ab_Run ab_mt 212 3 ls (ab_gv (ls 0) :: st) w := E_loadr (n := 1) rfl h
theorem e_212_3 {ls : ab_L} {st : List Value} {w : ab_W} (h : ab_isI (ls 1) = true) : ab_Run ab_mt 212 3 ls st w = ab_Run ab_mt 212 4 ls (ab_gv (ls 1) :: st) w := E_loadi (n := 1) rfl h
theorem e_212_4 {ls : ab_L} {st : List Value} {w : ab_W} (h : ab_isI (ls 2) = true) : ab_Run ab_mt 212 4 ls st w = ab_Run ab_mt 212 5 ls (ab_gv (ls 2) :: st) w := E_loadi (n := 1) rfl h
theorem e_212_5 {ls : ab_L} {st : List Value} {w : ab_W} {v0 v1 v2 : Value} (h1 : ab_recv ab_mt 22 [v0, v1, v2] w.2 = true) (h8 : ab_w8 st = true) : ab_Run ab_mt 212 5 ls (v2 :: v1 :: v0 :: st) w = ab_aft 22 212 5 ls st (ab_Cl 22 [v0, v1, v2] w) := E_call3 rfl h1 h8
theorem e_212_8 {ls : ab_L} {st : List Value} {w : ab_W} {a : Nat} {i : Int32} {x : Int64} (h : ab_inL i (w.2 a) = true) : ab_Run ab_mt 212 8 ls (.long x :: .int i :: .ref a :: st) w = ab_Run ab_mt 212 9 ls st (w.1, ab_up w.2 a (ab_sL i.toNatClampNeg x (w.2 a))) := E_last rfl h
theorem e_212_9 {ls : ab_L} {st : List Value} {w : ab_W} : ab_Run ab_mt 212 9 ls st w = ab_Run ab_mt 212 16 ls st w := E_goto rfl
theorem e_212_12 {ls : ab_L} {st : List Value} {w : ab_W} {x : Nat} : ab_Run ab_mt 212 12 ls (.ref x :: st) w = ab_Run ab_mt 212 14 (ab_l1 ls 4 (.ref x)) st w := E_storr (n := 2) rfl
theorem e_212_14 {ls : ab_L} {st : List Value} {w : ab_W} : ab_Run ab_mt 212 14 ls st w = ab_Run ab_mt 212 15 ls (.int (nI 1) :: st) w := E_push (n := 1) rfl
theorem e_212_15 {ls : ab_L} {w : ab_W} {x : Int32} : ab_Run ab_mt 212 15 ls [.int x] w = some (.inl (some (.int x)), w) := E_reti rfl
theorem e_212_16 {ls : ab_L} {st : List Value} {w : ab_W} : ab_Run ab_mt 212 16 ls st w = ab_Run ab_mt 212 17 ls (.int (nI 0) :: st) w := E_push (n := 1) rfl
theorem e_212_17 {ls : ab_L} {w : ab_W} {x : Int32} : ab_Run ab_mt 212 17 ls [.int x] w = some (.inl (some (.int x)), w) := E_reti rfl
theorem rv_212 {σ : ab_S} {x0 : Nat} {x1 : Int32} {x2 : Int32} {x3 : Nat} : ab_recv ab_mt 212 [.ref x0, .int x1, .int x2, .ref x3] σ = true := rfl
theorem xh_212_5_2 {ls : ab_L} {rest : List Value} {w : ab_W} : ab_aft 22 212 5 ls rest (some (.inr 2, w)) = ab_Run ab_mt 212 14 (fun _ => none) [] w := ab_aft_h rfl rfl
theorem e_213_0 {ls : ab_L} {st : List Value} {w : ab_W} (h : ab_isR (ls 3) = true) : ab_Run ab_mt 213 0 ls st w = ab_Run ab_mt 213 1 ls (ab_gv (ls 3) :: st) w := E_loadr (n := 1) rfl h
theorem e_213_1 {ls : ab_L} {st : List Value} {w : ab_W} : ab_Run ab_mt 213 1 ls st w = ab_Run ab_mt 213 2 ls (.int (nI 0) :: st) w := E_push (n := 1) rfl
theorem e_213_2 {ls : ab_L} {st : List Value} {w : ab_W} (h : ab_isR (ls 0) = true) : ab_Run ab_mt 213 2 ls st w = ab_Run ab_mt 213 3 ls (ab_gv (ls 0) :: st) w := E_loadr (n := 1) rfl h
theorem e_213_3 {ls : ab_L} {st : List Value} {w : ab_W} (h : ab_isI (ls 1) = true) : ab_Run ab_mt 213 3 ls st w = ab_Run ab_mt 213 4 ls (ab_gv (ls 1) :: st) w := E_loadi (n := 1) rfl h
theorem e_213_4 {ls : ab_L} {st : List Value} {w : ab_W} (h : ab_isI (ls 2) = true) : ab_Run ab_mt 213 4 ls st w = ab_Run ab_mt 213 5 ls (ab_gv (ls 2) :: st) w := E_loadi (n := 1) rfl h
theorem e_213_5 {ls : ab_L} {st : List Value} {w : ab_W} {v0 v1 v2 : Value} (h1 : ab_recv ab_mt 23 [v0, v1, v2] w.2 = true) (h8 : ab_w8 st = true) : ab_Run ab_mt 213 5 ls (v2 :: v1 :: v0 :: st) w = ab_aft 23 213 5 ls st (ab_Cl 23 [v0, v1, v2] w) := E_call3 rfl h1 h8
theorem e_213_8 {ls : ab_L} {st : List Value} {w : ab_W} {x : Int32} : ab_Run ab_mt 213 8 ls (.int x :: st) w = ab_Run ab_mt 213 9 ls (.long x.toInt64 :: st) w := E_i2l rfl
theorem e_213_9 {ls : ab_L} {st : List Value} {w : ab_W} {a : Nat} {i : Int32} {x : Int64} (h : ab_inL i (w.2 a) = true) : ab_Run ab_mt 213 9 ls (.long x :: .int i :: .ref a :: st) w = ab_Run ab_mt 213 10 ls st (w.1, ab_up w.2 a (ab_sL i.toNatClampNeg x (w.2 a))) := E_last rfl h
theorem e_213_10 {ls : ab_L} {st : List Value} {w : ab_W} : ab_Run ab_mt 213 10 ls st w = ab_Run ab_mt 213 21 ls st w := E_goto rfl
theorem e_213_13 {ls : ab_L} {st : List Value} {w : ab_W} {x : Nat} : ab_Run ab_mt 213 13 ls (.ref x :: st) w = ab_Run ab_mt 213 15 (ab_l1 ls 4 (.ref x)) st w := E_storr (n := 2) rfl
theorem e_213_15 {ls : ab_L} {st : List Value} {w : ab_W} : ab_Run ab_mt 213 15 ls st w = ab_Run ab_mt 213 16 ls (.int (nI 1) :: st) w := E_push (n := 1) rfl
theorem e_213_16 {ls : ab_L} {w : ab_W} {x : Int32} : ab_Run ab_mt 213 16 ls [.int x] w = some (.inl (some (.int x)), w) := E_reti rfl
theorem e_213_17 {ls : ab_L} {st : List Value} {w : ab_W} {x : Nat} : ab_Run ab_mt 213 17 ls (.ref x :: st) w = ab_Run ab_mt 213 19 (ab_l1 ls 4 (.ref x)) st w := E_storr (n := 2) rfl
theorem e_213_19 {ls : ab_L} {st : List Value} {w : ab_W} : ab_Run ab_mt 213 19 ls st w = ab_Run ab_mt 213 20 ls (.int (nI 2) :: st) w := E_push (n := 1) rfl
theorem e_213_20 {ls : ab_L} {w : ab_W} {x : Int32} : ab_Run ab_mt 213 20 ls [.int x] w = some (.inl (some (.int x)), w) := E_reti rfl
theorem e_213_21 {ls : ab_L} {st : List Value} {w : ab_W} : ab_Run ab_mt 213 21 ls st w = ab_Run ab_mt 213 22 ls (.int (nI 0) :: st) w := E_push (n := 1) rfl
theorem e_213_22 {ls : ab_L} {w : ab_W} {x : Int32} : ab_Run ab_mt 213 22 ls [.int x] w = some (.inl (some (.int x)), w) := E_reti rfl
theorem rv_213 {σ : ab_S} {x0 : Nat} {x1 : Int32} {x2 : Int32} {x3 : Nat} : ab_recv ab_mt 213 [.ref x0, .int x1, .int x2, .ref x3] σ = true := rfl
theorem xh_213_5_2 {ls : ab_L} {rest : List Value} {w : ab_W} : ab_aft 23 213 5 ls rest (some (.inr 2, w)) = ab_Run ab_mt 213 15 (fun _ => none) [] w := ab_aft_h rfl rfl
theorem xh_213_5_1 {ls : ab_L} {rest : List Value} {w : ab_W} : ab_aft 23 213 5 ls rest (some (.inr 1, w)) = ab_Run ab_mt 213 19 (fun _ => none) [] w := ab_aft_h rfl rfl
theorem e_214_0 {ls : ab_L} {st : List Value} {w : ab_W} (h : ab_isR (ls 3) = true) : ab_Run ab_mt 214 0 ls st w = ab_Run ab_mt 214 1 ls (ab_gv (ls 3) :: st) w := E_loadr (n := 1) rfl h
theorem e_214_1 {ls : ab_L} {st : List Value} {w : ab_W} : ab_Run ab_mt 214 1 ls st w = ab_Run ab_mt 214 2 ls (.int (nI 0) :: st) w := E_push (n := 1) rfl
theorem e_214_2 {ls : ab_L} {st : List Value} {w : ab_W} (h : ab_isR (ls 0) = true) : ab_Run ab_mt 214 2 ls st w = ab_Run ab_mt 214 3 ls (ab_gv (ls 0) :: st) w := E_loadr (n := 1) rfl h
theorem e_214_3 {ls : ab_L} {st : List Value} {w : ab_W} (h : ab_isI (ls 1) = true) : ab_Run ab_mt 214 3 ls st w = ab_Run ab_mt 214 4 ls (ab_gv (ls 1) :: st) w := E_loadi (n := 1) rfl h
theorem e_214_4 {ls : ab_L} {st : List Value} {w : ab_W} (h : ab_isI (ls 2) = true) : ab_Run ab_mt 214 4 ls st w = ab_Run ab_mt 214 5 ls (ab_gv (ls 2) :: st) w := E_loadi (n := 1) rfl h
theorem e_214_5 {ls : ab_L} {st : List Value} {w : ab_W} {v0 v1 v2 : Value} (h1 : ab_recv ab_mt 24 [v0, v1, v2] w.2 = true) (h8 : ab_w8 st = true) : ab_Run ab_mt 214 5 ls (v2 :: v1 :: v0 :: st) w = ab_aft 24 214 5 ls st (ab_Cl 24 [v0, v1, v2] w) := E_call3 rfl h1 h8
theorem e_214_8 {ls : ab_L} {st : List Value} {w : ab_W} {a : Nat} {i : Int32} {x : Int64} (h : ab_inL i (w.2 a) = true) : ab_Run ab_mt 214 8 ls (.long x :: .int i :: .ref a :: st) w = ab_Run ab_mt 214 9 ls st (w.1, ab_up w.2 a (ab_sL i.toNatClampNeg x (w.2 a))) := E_last rfl h
theorem e_214_9 {ls : ab_L} {st : List Value} {w : ab_W} : ab_Run ab_mt 214 9 ls st w = ab_Run ab_mt 214 20 ls st w := E_goto rfl
theorem e_214_12 {ls : ab_L} {st : List Value} {w : ab_W} {x : Nat} : ab_Run ab_mt 214 12 ls (.ref x :: st) w = ab_Run ab_mt 214 14 (ab_l1 ls 4 (.ref x)) st w := E_storr (n := 2) rfl
theorem e_214_14 {ls : ab_L} {st : List Value} {w : ab_W} : ab_Run ab_mt 214 14 ls st w = ab_Run ab_mt 214 15 ls (.int (nI 1) :: st) w := E_push (n := 1) rfl
theorem e_214_15 {ls : ab_L} {w : ab_W} {x : Int32} : ab_Run ab_mt 214 15 ls [.int x] w = some (.inl (some (.int x)), w) := E_reti rfl
theorem e_214_16 {ls : ab_L} {st : List Value} {w : ab_W} {x : Nat} : ab_Run ab_mt 214 16 ls (.ref x :: st) w = ab_Run ab_mt 214 18 (ab_l1 ls 4 (.ref x)) st w := E_storr (n := 2) rfl
theorem e_214_18 {ls : ab_L} {st : List Value} {w : ab_W} : ab_Run ab_mt 214 18 ls st w = ab_Run ab_mt 214 19 ls (.int (nI 2) :: st) w := E_push (n := 1) rfl
theorem e_214_19 {ls : ab_L} {w : ab_W} {x : Int32} : ab_Run ab_mt 214 19 ls [.int x] w = some (.inl (some (.int x)), w) := E_reti rfl
theorem e_214_20 {ls : ab_L} {st : List Value} {w : ab_W} : ab_Run ab_mt 214 20 ls st w = ab_Run ab_mt 214 21 ls (.int (nI 0) :: st) w := E_push (n := 1) rfl
theorem e_214_21 {ls : ab_L} {w : ab_W} {x : Int32} : ab_Run ab_mt 214 21 ls [.int x] w = some (.inl (some (.int x)), w) := E_reti rfl
theorem rv_214 {σ : ab_S} {x0 : Nat} {x1 : Int32} {x2 : Int32} {x3 : Nat} : ab_recv ab_mt 214 [.ref x0, .int x1, .int x2, .ref x3] σ = true := rfl
theorem xh_214_5_2 {ls : ab_L} {rest : List Value} {w : ab_W} : ab_aft 24 214 5 ls rest (some (.inr 2, w)) = ab_Run ab_mt 214 14 (fun _ => none) [] w := ab_aft_h rfl rfl
theorem xh_214_5_1 {ls : ab_L} {rest : List Value} {w : ab_W} : ab_aft 24 214 5 ls rest (some (.inr 1, w)) = ab_Run ab_mt 214 18 (fun _ => none) [] w := ab_aft_h rfl rfl
theorem e_215_0 {ls : ab_L} {st : List Value} {w : ab_W} (h : ab_isR (ls 4) = true) : ab_Run ab_mt 215 0 ls st w = ab_Run ab_mt 215 2 ls (ab_gv (ls 4) :: st) w := E_loadr (n := 2) rfl h
theorem e_215_2 {ls : ab_L} {st : List Value} {w : ab_W} : ab_Run ab_mt 215 2 ls st w = ab_Run ab_mt 215 3 ls (.int (nI 0) :: st) w := E_push (n := 1) rfl
theorem e_215_3 {ls : ab_L} {st : List Value} {w : ab_W} (h : ab_isR (ls 0) = true) : ab_Run ab_mt 215 3 ls st w = ab_Run ab_mt 215 4 ls (ab_gv (ls 0) :: st) w := E_loadr (n := 1) rfl h
theorem e_215_4 {ls : ab_L} {st : List Value} {w : ab_W} (h : ab_isL (ls 1) = true) (h2 : (ls 2).isNone = true) : ab_Run ab_mt 215 4 ls st w = ab_Run ab_mt 215 5 ls (ab_gv (ls 1) :: st) w := E_loadl (n := 1) rfl h h2
theorem e_215_5 {ls : ab_L} {st : List Value} {w : ab_W} (h : ab_isI (ls 3) = true) : ab_Run ab_mt 215 5 ls st w = ab_Run ab_mt 215 6 ls (ab_gv (ls 3) :: st) w := E_loadi (n := 1) rfl h
theorem e_215_6 {ls : ab_L} {st : List Value} {w : ab_W} {v0 v1 v2 : Value} (h1 : ab_recv ab_mt 25 [v0, v1, v2] w.2 = true) (h8 : ab_w8 st = true) : ab_Run ab_mt 215 6 ls (v2 :: v1 :: v0 :: st) w = ab_aft 25 215 6 ls st (ab_Cl 25 [v0, v1, v2] w) := E_call3 rfl h1 h8
theorem e_215_9 {ls : ab_L} {st : List Value} {w : ab_W} {x : Int32} : ab_Run ab_mt 215 9 ls (.int x :: st) w = ab_Run ab_mt 215 10 ls (.long x.toInt64 :: st) w := E_i2l rfl
theorem e_215_10 {ls : ab_L} {st : List Value} {w : ab_W} {a : Nat} {i : Int32} {x : Int64} (h : ab_inL i (w.2 a) = true) : ab_Run ab_mt 215 10 ls (.long x :: .int i :: .ref a :: st) w = ab_Run ab_mt 215 11 ls st (w.1, ab_up w.2 a (ab_sL i.toNatClampNeg x (w.2 a))) := E_last rfl h
theorem e_215_11 {ls : ab_L} {st : List Value} {w : ab_W} : ab_Run ab_mt 215 11 ls st w = ab_Run ab_mt 215 18 ls st w := E_goto rfl
theorem e_215_14 {ls : ab_L} {st : List Value} {w : ab_W} {x : Nat} : ab_Run ab_mt 215 14 ls (.ref x :: st) w = ab_Run ab_mt 215 16 (ab_l1 ls 5 (.ref x)) st w := E_storr (n := 2) rfl
theorem e_215_16 {ls : ab_L} {st : List Value} {w : ab_W} : ab_Run ab_mt 215 16 ls st w = ab_Run ab_mt 215 17 ls (.int (nI 1) :: st) w := E_push (n := 1) rfl
theorem e_215_17 {ls : ab_L} {w : ab_W} {x : Int32} : ab_Run ab_mt 215 17 ls [.int x] w = some (.inl (some (.int x)), w) := E_reti rfl
theorem e_215_18 {ls : ab_L} {st : List Value} {w : ab_W} : ab_Run ab_mt 215 18 ls st w = ab_Run ab_mt 215 19 ls (.int (nI 0) :: st) w := E_push (n := 1) rfl
theorem e_215_19 {ls : ab_L} {w : ab_W} {x : Int32} : ab_Run ab_mt 215 19 ls [.int x] w = some (.inl (some (.int x)), w) := E_reti rfl
theorem rv_215 {σ : ab_S} {x0 : Nat} {x1 : Int64} {x2 : Int32} {x3 : Nat} : ab_recv ab_mt 215 [.ref x0, .long x1, .int x2, .ref x3] σ = true := rfl
theorem xh_215_6_1 {ls : ab_L} {rest : List Value} {w : ab_W} : ab_aft 25 215 6 ls rest (some (.inr 1, w)) = ab_Run ab_mt 215 16 (fun _ => none) [] w := ab_aft_h rfl rfl
theorem e_216_0 {ls : ab_L} {st : List Value} {w : ab_W} (h : ab_isR (ls 2) = true) : ab_Run ab_mt 216 0 ls st w = ab_Run ab_mt 216 1 ls (ab_gv (ls 2) :: st) w := E_loadr (n := 1) rfl h
theorem e_216_1 {ls : ab_L} {st : List Value} {w : ab_W} : ab_Run ab_mt 216 1 ls st w = ab_Run ab_mt 216 2 ls (.int (nI 0) :: st) w := E_push (n := 1) rfl
theorem e_216_2 {ls : ab_L} {st : List Value} {w : ab_W} (h : ab_isR (ls 0) = true) : ab_Run ab_mt 216 2 ls st w = ab_Run ab_mt 216 3 ls (ab_gv (ls 0) :: st) w := E_loadr (n := 1) rfl h
theorem e_216_3 {ls : ab_L} {st : List Value} {w : ab_W} (h : ab_isI (ls 1) = true) : ab_Run ab_mt 216 3 ls st w = ab_Run ab_mt 216 4 ls (ab_gv (ls 1) :: st) w := E_loadi (n := 1) rfl h
theorem e_216_4 {ls : ab_L} {st : List Value} {w : ab_W} {v0 v1 : Value} (h1 : ab_recv ab_mt 26 [v0, v1] w.2 = true) (h8 : ab_w8 st = true) : ab_Run ab_mt 216 4 ls (v1 :: v0 :: st) w = ab_aft 26 216 4 ls st (ab_Cl 26 [v0, v1] w) := E_call2 rfl h1 h8
theorem e_216_7 {ls : ab_L} {st : List Value} {w : ab_W} {a : Nat} {i : Int32} {x : Int64} (h : ab_inL i (w.2 a) = true) : ab_Run ab_mt 216 7 ls (.long x :: .int i :: .ref a :: st) w = ab_Run ab_mt 216 8 ls st (w.1, ab_up w.2 a (ab_sL i.toNatClampNeg x (w.2 a))) := E_last rfl h
theorem e_216_8 {ls : ab_L} {st : List Value} {w : ab_W} : ab_Run ab_mt 216 8 ls st w = ab_Run ab_mt 216 14 ls st w := E_goto rfl
theorem e_216_11 {ls : ab_L} {st : List Value} {w : ab_W} {x : Nat} : ab_Run ab_mt 216 11 ls (.ref x :: st) w = ab_Run ab_mt 216 12 (ab_l1 ls 3 (.ref x)) st w := E_storr (n := 1) rfl
theorem e_216_12 {ls : ab_L} {st : List Value} {w : ab_W} : ab_Run ab_mt 216 12 ls st w = ab_Run ab_mt 216 13 ls (.int (nI 1) :: st) w := E_push (n := 1) rfl
theorem e_216_13 {ls : ab_L} {w : ab_W} {x : Int32} : ab_Run ab_mt 216 13 ls [.int x] w = some (.inl (some (.int x)), w) := E_reti rfl
theorem e_216_14 {ls : ab_L} {st : List Value} {w : ab_W} : ab_Run ab_mt 216 14 ls st w = ab_Run ab_mt 216 15 ls (.int (nI 0) :: st) w := E_push (n := 1) rfl
theorem e_216_15 {ls : ab_L} {w : ab_W} {x : Int32} : ab_Run ab_mt 216 15 ls [.int x] w = some (.inl (some (.int x)), w) := E_reti rfl
theorem rv_216 {σ : ab_S} {x0 : Nat} {x1 : Int32} {x2 : Nat} : ab_recv ab_mt 216 [.ref x0, .int x1, .ref x2] σ = true := rfl
theorem xh_216_4_1 {ls : ab_L} {rest : List Value} {w : ab_W} : ab_aft 26 216 4 ls rest (some (.inr 1, w)) = ab_Run ab_mt 216 12 (fun _ => none) [] w := ab_aft_h rfl rfl
theorem e_217_0 {ls : ab_L} {st : List Value} {w : ab_W} (h : ab_isR (ls 4) = true) : ab_Run ab_mt 217 0 ls st w = ab_Run ab_mt 217 2 ls (ab_gv (ls 4) :: st) w := E_loadr (n := 2) rfl h
theorem e_217_2 {ls : ab_L} {st : List Value} {w : ab_W} : ab_Run ab_mt 217 2 ls st w = ab_Run ab_mt 217 3 ls (.int (nI 0) :: st) w := E_push (n := 1) rfl
theorem e_217_3 {ls : ab_L} {st : List Value} {w : ab_W} (h : ab_isR (ls 0) = true) : ab_Run ab_mt 217 3 ls st w = ab_Run ab_mt 217 4 ls (ab_gv (ls 0) :: st) w := E_loadr (n := 1) rfl h
theorem e_217_4 {ls : ab_L} {st : List Value} {w : ab_W} (h : ab_isI (ls 1) = true) : ab_Run ab_mt 217 4 ls st w = ab_Run ab_mt 217 5 ls (ab_gv (ls 1) :: st) w := E_loadi (n := 1) rfl h
theorem e_217_5 {ls : ab_L} {st : List Value} {w : ab_W} (h : ab_isL (ls 2) = true) (h2 : (ls 3).isNone = true) : ab_Run ab_mt 217 5 ls st w = ab_Run ab_mt 217 6 ls (ab_gv (ls 2) :: st) w := E_loadl (n := 1) rfl h h2
theorem e_217_6 {ls : ab_L} {st : List Value} {w : ab_W} {v0 v1 v2 : Value} (h1 : ab_recv ab_mt 27 [v0, v1, v2] w.2 = true) (h8 : ab_w8 st = true) : ab_Run ab_mt 217 6 ls (v2 :: v1 :: v0 :: st) w = ab_aft 27 217 6 ls st (ab_Cl 27 [v0, v1, v2] w) := E_call3 rfl h1 h8
theorem e_217_9 {ls : ab_L} {st : List Value} {w : ab_W} {x : Int32} : ab_Run ab_mt 217 9 ls (.int x :: st) w = ab_Run ab_mt 217 10 ls (.long x.toInt64 :: st) w := E_i2l rfl
theorem e_217_10 {ls : ab_L} {st : List Value} {w : ab_W} {a : Nat} {i : Int32} {x : Int64} (h : ab_inL i (w.2 a) = true) : ab_Run ab_mt 217 10 ls (.long x :: .int i :: .ref a :: st) w = ab_Run ab_mt 217 11 ls st (w.1, ab_up w.2 a (ab_sL i.toNatClampNeg x (w.2 a))) := E_last rfl h
theorem e_217_11 {ls : ab_L} {st : List Value} {w : ab_W} : ab_Run ab_mt 217 11 ls st w = ab_Run ab_mt 217 22 ls st w := E_goto rfl
theorem e_217_14 {ls : ab_L} {st : List Value} {w : ab_W} {x : Nat} : ab_Run ab_mt 217 14 ls (.ref x :: st) w = ab_Run ab_mt 217 16 (ab_l1 ls 5 (.ref x)) st w := E_storr (n := 2) rfl
theorem e_217_16 {ls : ab_L} {st : List Value} {w : ab_W} : ab_Run ab_mt 217 16 ls st w = ab_Run ab_mt 217 17 ls (.int (nI 1) :: st) w := E_push (n := 1) rfl
theorem e_217_17 {ls : ab_L} {w : ab_W} {x : Int32} : ab_Run ab_mt 217 17 ls [.int x] w = some (.inl (some (.int x)), w) := E_reti rfl
theorem e_217_18 {ls : ab_L} {st : List Value} {w : ab_W} {x : Nat} : ab_Run ab_mt 217 18 ls (.ref x :: st) w = ab_Run ab_mt 217 20 (ab_l1 ls 5 (.ref x)) st w := E_storr (n := 2) rfl
theorem e_217_20 {ls : ab_L} {st : List Value} {w : ab_W} : ab_Run ab_mt 217 20 ls st w = ab_Run ab_mt 217 21 ls (.int (nI 2) :: st) w := E_push (n := 1) rfl
theorem e_217_21 {ls : ab_L} {w : ab_W} {x : Int32} : ab_Run ab_mt 217 21 ls [.int x] w = some (.inl (some (.int x)), w) := E_reti rfl
theorem e_217_22 {ls : ab_L} {st : List Value} {w : ab_W} : ab_Run ab_mt 217 22 ls st w = ab_Run ab_mt 217 23 ls (.int (nI 0) :: st) w := E_push (n := 1) rfl
theorem e_217_23 {ls : ab_L} {w : ab_W} {x : Int32} : ab_Run ab_mt 217 23 ls [.int x] w = some (.inl (some (.int x)), w) := E_reti rfl
theorem rv_217 {σ : ab_S} {x0 : Nat} {x1 : Int32} {x2 : Int64} {x3 : Nat} : ab_recv ab_mt 217 [.ref x0, .int x1, .long x2, .ref x3] σ = true := rfl
theorem xh_217_6_2 {ls : ab_L} {rest : List Value} {w : ab_W} : ab_aft 27 217 6 ls rest (some (.inr 2, w)) = ab_Run ab_mt 217 16 (fun _ => none) [] w := ab_aft_h rfl rfl
theorem xh_217_6_1 {ls : ab_L} {rest : List Value} {w : ab_W} : ab_aft 27 217 6 ls rest (some (.inr 1, w)) = ab_Run ab_mt 217 20 (fun _ => none) [] w := ab_aft_h rfl rfl
theorem e_218_0 {ls : ab_L} {st : List Value} {w : ab_W} (h : ab_isR (ls 4) = true) : ab_Run ab_mt 218 0 ls st w = ab_Run ab_mt 218 2 ls (ab_gv (ls 4) :: st) w := E_loadr (n := 2) rfl h
theorem e_218_2 {ls : ab_L} {st : List Value} {w : ab_W} : ab_Run ab_mt 218 2 ls st w = ab_Run ab_mt 218 3 ls (.int (nI 0) :: st) w := E_push (n := 1) rfl
theorem e_218_3 {ls : ab_L} {st : List Value} {w : ab_W} (h : ab_isR (ls 0) = true) : ab_Run ab_mt 218 3 ls st w = ab_Run ab_mt 218 4 ls (ab_gv (ls 0) :: st) w := E_loadr (n := 1) rfl h
theorem e_218_4 {ls : ab_L} {st : List Value} {w : ab_W} (h : ab_isI (ls 1) = true) : ab_Run ab_mt 218 4 ls st w = ab_Run ab_mt 218 5 ls (ab_gv (ls 1) :: st) w := E_loadi (n := 1) rfl h
theorem e_218_5 {ls : ab_L} {st : List Value} {w : ab_W} (h : ab_isL (ls 2) = true) (h2 : (ls 3).isNone = true) : ab_Run ab_mt 218 5 ls st w = ab_Run ab_mt 218 6 ls (ab_gv (ls 2) :: st) w := E_loadl (n := 1) rfl h h2
theorem e_218_6 {ls : ab_L} {st : List Value} {w : ab_W} {v0 v1 v2 : Value} (h1 : ab_recv ab_mt 28 [v0, v1, v2] w.2 = true) (h8 : ab_w8 st = true) : ab_Run ab_mt 218 6 ls (v2 :: v1 :: v0 :: st) w = ab_aft 28 218 6 ls st (ab_Cl 28 [v0, v1, v2] w) := E_call3 rfl h1 h8
theorem e_218_9 {ls : ab_L} {st : List Value} {w : ab_W} {x : Int32} : ab_Run ab_mt 218 9 ls (.int x :: st) w = ab_Run ab_mt 218 10 ls (.long x.toInt64 :: st) w := E_i2l rfl
theorem e_218_10 {ls : ab_L} {st : List Value} {w : ab_W} {a : Nat} {i : Int32} {x : Int64} (h : ab_inL i (w.2 a) = true) : ab_Run ab_mt 218 10 ls (.long x :: .int i :: .ref a :: st) w = ab_Run ab_mt 218 11 ls st (w.1, ab_up w.2 a (ab_sL i.toNatClampNeg x (w.2 a))) := E_last rfl h
theorem e_218_11 {ls : ab_L} {st : List Value} {w : ab_W} : ab_Run ab_mt 218 11 ls st w = ab_Run ab_mt 218 22 ls st w := E_goto rfl
theorem e_218_14 {ls : ab_L} {st : List Value} {w : ab_W} {x : Nat} : ab_Run ab_mt 218 14 ls (.ref x :: st) w = ab_Run ab_mt 218 16 (ab_l1 ls 5 (.ref x)) st w := E_storr (n := 2) rfl
theorem e_218_16 {ls : ab_L} {st : List Value} {w : ab_W} : ab_Run ab_mt 218 16 ls st w = ab_Run ab_mt 218 17 ls (.int (nI 1) :: st) w := E_push (n := 1) rfl
theorem e_218_17 {ls : ab_L} {w : ab_W} {x : Int32} : ab_Run ab_mt 218 17 ls [.int x] w = some (.inl (some (.int x)), w) := E_reti rfl
theorem e_218_18 {ls : ab_L} {st : List Value} {w : ab_W} {x : Nat} : ab_Run ab_mt 218 18 ls (.ref x :: st) w = ab_Run ab_mt 218 20 (ab_l1 ls 5 (.ref x)) st w := E_storr (n := 2) rfl
theorem e_218_20 {ls : ab_L} {st : List Value} {w : ab_W} : ab_Run ab_mt 218 20 ls st w = ab_Run ab_mt 218 21 ls (.int (nI 2) :: st) w := E_push (n := 1) rfl
theorem e_218_21 {ls : ab_L} {w : ab_W} {x : Int32} : ab_Run ab_mt 218 21 ls [.int x] w = some (.inl (some (.int x)), w) := E_reti rfl
theorem e_218_22 {ls : ab_L} {st : List Value} {w : ab_W} : ab_Run ab_mt 218 22 ls st w = ab_Run ab_mt 218 23 ls (.int (nI 0) :: st) w := E_push (n := 1) rfl
theorem e_218_23 {ls : ab_L} {w : ab_W} {x : Int32} : ab_Run ab_mt 218 23 ls [.int x] w = some (.inl (some (.int x)), w) := E_reti rfl
theorem rv_218 {σ : ab_S} {x0 : Nat} {x1 : Int32} {x2 : Int64} {x3 : Nat} : ab_recv ab_mt 218 [.ref x0, .int x1, .long x2, .ref x3] σ = true := rfl
theorem xh_218_6_2 {ls : ab_L} {rest : List Value} {w : ab_W} : ab_aft 28 218 6 ls rest (some (.inr 2, w)) = ab_Run ab_mt 218 16 (fun _ => none) [] w := ab_aft_h rfl rfl
theorem xh_218_6_1 {ls : ab_L} {rest : List Value} {w : ab_W} : ab_aft 28 218 6 ls rest (some (.inr 1, w)) = ab_Run ab_mt 218 20 (fun _ => none) [] w := ab_aft_h rfl rfl
theorem e_219_0 {ls : ab_L} {st : List Value} {w : ab_W} (h : ab_isR (ls 4) = true) : ab_Run ab_mt 219 0 ls st w = ab_Run ab_mt 219 2 ls (ab_gv (ls 4) :: st) w := E_loadr (n := 2) rfl h
theorem e_219_2 {ls : ab_L} {st : List Value} {w : ab_W} : ab_Run ab_mt 219 2 ls st w = ab_Run ab_mt 219 3 ls (.int (nI 0) :: st) w := E_push (n := 1) rfl
theorem e_219_3 {ls : ab_L} {st : List Value} {w : ab_W} (h : ab_isR (ls 0) = true) : ab_Run ab_mt 219 3 ls st w = ab_Run ab_mt 219 4 ls (ab_gv (ls 0) :: st) w := E_loadr (n := 1) rfl h
theorem e_219_4 {ls : ab_L} {st : List Value} {w : ab_W} (h : ab_isI (ls 1) = true) : ab_Run ab_mt 219 4 ls st w = ab_Run ab_mt 219 5 ls (ab_gv (ls 1) :: st) w := E_loadi (n := 1) rfl h
theorem e_219_5 {ls : ab_L} {st : List Value} {w : ab_W} (h : ab_isI (ls 2) = true) : ab_Run ab_mt 219 5 ls st w = ab_Run ab_mt 219 6 ls (ab_gv (ls 2) :: st) w := E_loadi (n := 1) rfl h
theorem e_219_6 {ls : ab_L} {st : List Value} {w : ab_W} (h : ab_isI (ls 3) = true) : ab_Run ab_mt 219 6 ls st w = ab_Run ab_mt 219 7 ls (ab_gv (ls 3) :: st) w := E_loadi (n := 1) rfl h
theorem e_219_7 {ls : ab_L} {st : List Value} {w : ab_W} {v0 v1 v2 v3 : Value} (h1 : ab_recv ab_mt 29 [v0, v1, v2, v3] w.2 = true) (h8 : ab_w8 st = true) : ab_Run ab_mt 219 7 ls (v3 :: v2 :: v1 :: v0 :: st) w = ab_aft 29 219 7 ls st (ab_Cl 29 [v0, v1, v2, v3] w) := E_call4 rfl h1 h8
theorem e_219_10 {ls : ab_L} {st : List Value} {w : ab_W} {a : Nat} {i : Int32} {x : Int64} (h : ab_inL i (w.2 a) = true) : ab_Run ab_mt 219 10 ls (.long x :: .int i :: .ref a :: st) w = ab_Run ab_mt 219 11 ls st (w.1, ab_up w.2 a (ab_sL i.toNatClampNeg x (w.2 a))) := E_last rfl h
theorem e_219_11 {ls : ab_L} {st : List Value} {w : ab_W} : ab_Run ab_mt 219 11 ls st w = ab_Run ab_mt 219 22 ls st w := E_goto rfl
theorem e_219_14 {ls : ab_L} {st : List Value} {w : ab_W} {x : Nat} : ab_Run ab_mt 219 14 ls (.ref x :: st) w = ab_Run ab_mt 219 16 (ab_l1 ls 5 (.ref x)) st w := E_storr (n := 2) rfl
theorem e_219_16 {ls : ab_L} {st : List Value} {w : ab_W} : ab_Run ab_mt 219 16 ls st w = ab_Run ab_mt 219 17 ls (.int (nI 1) :: st) w := E_push (n := 1) rfl
theorem e_219_17 {ls : ab_L} {w : ab_W} {x : Int32} : ab_Run ab_mt 219 17 ls [.int x] w = some (.inl (some (.int x)), w) := E_reti rfl
theorem e_219_18 {ls : ab_L} {st : List Value} {w : ab_W} {x : Nat} : ab_Run ab_mt 219 18 ls (.ref x :: st) w = ab_Run ab_mt 219 20 (ab_l1 ls 5 (.ref x)) st w := E_storr (n := 2) rfl
theorem e_219_20 {ls : ab_L} {st : List Value} {w : ab_W} : ab_Run ab_mt 219 20 ls st w = ab_Run ab_mt 219 21 ls (.int (nI 2) :: st) w := E_push (n := 1) rfl
theorem e_219_21 {ls : ab_L} {w : ab_W} {x : Int32} : ab_Run ab_mt 219 21 ls [.int x] w = some (.inl (some (.int x)), w) := E_reti rfl
theorem e_219_22 {ls : ab_L} {st : List Value} {w : ab_W} : ab_Run ab_mt 219 22 ls st w = ab_Run ab_mt 219 23 ls (.int (nI 0) :: st) w := E_push (n := 1) rfl
theorem e_219_23 {ls : ab_L} {w : ab_W} {x : Int32} : ab_Run ab_mt 219 23 ls [.int x] w = some (.inl (some (.int x)), w) := E_reti rfl
theorem rv_219 {σ : ab_S} {x0 : Nat} {x1 : Int32} {x2 : Int32} {x3 : Int32} {x4 : Nat} : ab_recv ab_mt 219 [.ref x0, .int x1, .int x2, .int x3, .ref x4] σ = true := rfl
theorem xh_219_7_2 {ls : ab_L} {rest : List Value} {w : ab_W} : ab_aft 29 219 7 ls rest (some (.inr 2, w)) = ab_Run ab_mt 219 16 (fun _ => none) [] w := ab_aft_h rfl rfl
theorem xh_219_7_1 {ls : ab_L} {rest : List Value} {w : ab_W} : ab_aft 29 219 7 ls rest (some (.inr 1, w)) = ab_Run ab_mt 219 20 (fun _ => none) [] w := ab_aft_h rfl rfl
set_option maxRecDepth 30000 in
theorem e_220_0 {ls : ab_L} {st : List Value} {w : ab_W} (h : w.1.1 = true) : ab_Run ab_mt 220 0 ls st w = ab_Run ab_mt 220 3 ls (.ref w.1.2.1 :: st) (ab_mk w.1 w.2 (ab_ob 0 [.null, .null, .null, .null, .null, .int 0, .null, .int 0, .null, .null]) 10) := E_new (n := 3) (x := ab_ob 0 [.null, .null, .null, .null, .null, .int 0, .null, .int 0, .null, .null]) (sz := 10) (rest := st) rfl rfl h
set_option maxRecDepth 30000 in
theorem e_220_3 {ls : ab_L} {st : List Value} {w : ab_W} {x : Nat} : ab_Run ab_mt 220 3 ls (.ref x :: st) w = ab_Run ab_mt 220 4 ls (.ref x :: .ref x :: st) w := E_dup_r rfl
set_option maxRecDepth 30000 in
theorem e_220_4 {ls : ab_L} {st : List Value} {w : ab_W} {v0 : Value} (h1 : ab_recv ab_mt 0 [v0] w.2 = true) (h8 : ab_w8 st = true) : ab_Run ab_mt 220 4 ls (v0 :: st) w = ab_aft 0 220 4 ls st (ab_Cl 0 [v0] w) := E_call1 rfl h1 h8
set_option maxRecDepth 30000 in
theorem e_220_7 {ls : ab_L} {st : List Value} {w : ab_W} {x : Nat} : ab_Run ab_mt 220 7 ls (.ref x :: st) w = ab_Run ab_mt 220 8 (ab_l1 ls 1 (.ref x)) st w := E_storr (n := 1) rfl
set_option maxRecDepth 30000 in
theorem e_220_8 {ls : ab_L} {st : List Value} {w : ab_W} (h : w.1.1 = true) : ab_Run ab_mt 220 8 ls st w = ab_Run ab_mt 220 11 ls (.ref w.1.2.1 :: st) (ab_mk w.1 w.2 (ab_ob 7 [.int 0, .null, .null, .int 0, .null, .int 0, .null, .int 0, .null, .int 0, .int 0, .int 0, .int 0, .long 0, .null, .null, .null, .long 0, .int 0, .null, .int 0, .int 0, .int 0, .long 0]) 24) := E_new (n := 3) (x := ab_ob 7 [.int 0, .null, .null, .int 0, .null, .int 0, .null, .int 0, .null, .int 0, .int 0, .int 0, .int 0, .long 0, .null, .null, .null, .long 0, .int 0, .null, .int 0, .int 0, .int 0, .long 0]) (sz := 24) (rest := st) rfl rfl h
set_option maxRecDepth 30000 in
theorem e_220_11 {ls : ab_L} {st : List Value} {w : ab_W} {x : Nat} : ab_Run ab_mt 220 11 ls (.ref x :: st) w = ab_Run ab_mt 220 12 ls (.ref x :: .ref x :: st) w := E_dup_r rfl
set_option maxRecDepth 30000 in
theorem e_220_12 {ls : ab_L} {st : List Value} {w : ab_W} {v0 : Value} (h1 : ab_recv ab_mt 105 [v0] w.2 = true) (h8 : ab_w8 st = true) : ab_Run ab_mt 220 12 ls (v0 :: st) w = ab_aft 105 220 12 ls st (ab_Cl 105 [v0] w) := E_call1 rfl h1 h8
set_option maxRecDepth 30000 in
theorem e_220_15 {ls : ab_L} {st : List Value} {w : ab_W} {x : Nat} : ab_Run ab_mt 220 15 ls (.ref x :: st) w = ab_Run ab_mt 220 16 (ab_l1 ls 2 (.ref x)) st w := E_storr (n := 1) rfl
set_option maxRecDepth 30000 in
theorem e_220_16 {ls : ab_L} {st : List Value} {w : ab_W} : ab_Run ab_mt 220 16 ls st w = ab_Run ab_mt 220 17 ls (.int (nI 1) :: st) w := E_push (n := 1) rfl
set_option maxRecDepth 30000 in
theorem e_220_17 {ls : ab_L} {st : List Value} {w : ab_W} {n : Int32} (h : w.1.1 = true) (hn : ¬ (n < 0 ∨ 60000 < n.toNatClampNeg)) : ab_Run ab_mt 220 17 ls (.int n :: st) w = ab_Run ab_mt 220 19 ls (.ref w.1.2.1 :: st) (ab_mk w.1 w.2 (ab_la n.toNatClampNeg (fun _ => 0)) n.toNatClampNeg) := E_new (n := 2) (x := ab_la n.toNatClampNeg (fun _ => 0)) (sz := n.toNatClampNeg) (rest := st) rfl (if_neg hn) h
set_option maxRecDepth 30000 in
theorem e_220_19 {ls : ab_L} {st : List Value} {w : ab_W} {x : Nat} : ab_Run ab_mt 220 19 ls (.ref x :: st) w = ab_Run ab_mt 220 20 (ab_l1 ls 3 (.ref x)) st w := E_storr (n := 1) rfl
set_option maxRecDepth 30000 in
theorem e_220_20 {ls : ab_L} {st : List Value} {w : ab_W} : ab_Run ab_mt 220 20 ls st w = ab_Run ab_mt 220 21 ls (.int (nI 0) :: st) w := E_push (n := 1) rfl
set_option maxRecDepth 30000 in
theorem e_220_21 {ls : ab_L} {st : List Value} {w : ab_W} {x : Int32} : ab_Run ab_mt 220 21 ls (.int x :: st) w = ab_Run ab_mt 220 23 (ab_l1 ls 4 (.int x)) st w := E_stori (n := 2) rfl
set_option maxRecDepth 30000 in
theorem e_220_23 {ls : ab_L} {st : List Value} {w : ab_W} (h : ab_isI (ls 4) = true) : ab_Run ab_mt 220 23 ls st w = ab_Run ab_mt 220 25 ls (ab_gv (ls 4) :: st) w := E_loadi (n := 2) rfl h
set_option maxRecDepth 30000 in
theorem e_220_25 {ls : ab_L} {st : List Value} {w : ab_W} (h : ab_isR (ls 0) = true) : ab_Run ab_mt 220 25 ls st w = ab_Run ab_mt 220 26 ls (ab_gv (ls 0) :: st) w := E_loadr (n := 1) rfl h
set_option maxRecDepth 30000 in
theorem e_220_26 {ls : ab_L} {st : List Value} {w : ab_W} {a : Nat} (h : ab_isA (w.2 a) = true) : ab_Run ab_mt 220 26 ls (.ref a :: st) w = ab_Run ab_mt 220 27 ls (.int (nI (ab_ln (w.2 a))) :: st) w := E_alen rfl h
set_option maxRecDepth 30000 in
theorem e_220_27 {ls : ab_L} {st : List Value} {w : ab_W} : ab_Run ab_mt 220 27 ls st w = ab_Run ab_mt 220 28 ls (.int (nI 4) :: st) w := E_push (n := 1) rfl
set_option maxRecDepth 30000 in
theorem e_220_28 {ls : ab_L} {st : List Value} {w : ab_W} {x y : Int32} : ab_Run ab_mt 220 28 ls (.int y :: .int x :: st) w = ab_Run ab_mt 220 29 ls (.int (x - y) :: st) w := E_ib (f := fun x y => x - y) rfl
set_option maxRecDepth 30000 in
theorem e_220_29 {ls : ab_L} {st : List Value} {w : ab_W} {x y : Int32} : ab_Run ab_mt 220 29 ls (.int y :: .int x :: st) w = if y < x then ab_Run ab_mt 220 2059 ls st w else ab_Run ab_mt 220 32 ls st w := E_ic_gt rfl
set_option maxRecDepth 30000 in
theorem e_220_32 {ls : ab_L} {st : List Value} {w : ab_W} (h : ab_isR (ls 0) = true) : ab_Run ab_mt 220 32 ls st w = ab_Run ab_mt 220 33 ls (ab_gv (ls 0) :: st) w := E_loadr (n := 1) rfl h
set_option maxRecDepth 30000 in
theorem e_220_33 {ls : ab_L} {st : List Value} {w : ab_W} (h : ab_isI (ls 4) = true) : ab_Run ab_mt 220 33 ls st w = ab_Run ab_mt 220 35 ls (ab_gv (ls 4) :: st) w := E_loadi (n := 2) rfl h
set_option maxRecDepth 30000 in
theorem e_220_35 {ls : ab_L} {st : List Value} {w : ab_W} {a : Nat} {i : Int32} (h : ab_inI i (w.2 a) = true) : ab_Run ab_mt 220 35 ls (.int i :: .ref a :: st) w = ab_Run ab_mt 220 36 ls (.int (ab_aI i.toNatClampNeg (w.2 a)) :: st) w := E_iald rfl h
set_option maxRecDepth 30000 in
theorem e_220_36 {ls : ab_L} {st : List Value} {w : ab_W} : ab_Run ab_mt 220 36 ls st w = ab_Run ab_mt 220 38 ls (.int (nI 31) :: st) w := E_push (n := 2) rfl
set_option maxRecDepth 30000 in
theorem e_220_38 {ls : ab_L} {st : List Value} {w : ab_W} {x y : Int32} : ab_Run ab_mt 220 38 ls (.int y :: .int x :: st) w = ab_Run ab_mt 220 39 ls (.int (x &&& y) :: st) w := E_ib (f := fun x y => x &&& y) rfl
set_option maxRecDepth 30000 in
theorem e_220_39 {ls : ab_L} {st : List Value} {w : ab_W} {x : Int32} : ab_Run ab_mt 220 39 ls (.int x :: st) w = if x.toInt < 0 ∨ 30 < x.toInt then ab_Run ab_mt 220 2053 ls st w else ab_Run ab_mt 220 (([176, 220, 288, 368, 424, 520, 576, 656, 712, 756, 800, 856, 912, 968, 981, 994, 1073, 1129, 1172, 1227, 1295, 1362, 1429, 1497, 1564, 1664, 1719, 1819, 1919, 1998, 2039] : List Nat).getD (x.toInt - 0).toNat 0) ls st w := E_swi rfl (by decide)
set_option maxRecDepth 30000 in
theorem e_220_176 {ls : ab_L} {st : List Value} {w : ab_W} (h : ab_isR (ls 1) = true) : ab_Run ab_mt 220 176 ls st w = ab_Run ab_mt 220 177 ls (ab_gv (ls 1) :: st) w := E_loadr (n := 1) rfl h
set_option maxRecDepth 30000 in
theorem e_220_177 {ls : ab_L} {st : List Value} {w : ab_W} (h : ab_isR (ls 3) = true) : ab_Run ab_mt 220 177 ls st w = ab_Run ab_mt 220 178 ls (ab_gv (ls 3) :: st) w := E_loadr (n := 1) rfl h
set_option maxRecDepth 30000 in
theorem e_220_178 {ls : ab_L} {st : List Value} {w : ab_W} {v0 v1 : Value} (h1 : ab_recv ab_mt 193 [v0, v1] w.2 = true) (h8 : ab_w8 st = true) : ab_Run ab_mt 220 178 ls (v1 :: v0 :: st) w = ab_aft 193 220 178 ls st (ab_Cl 193 [v0, v1] w) := E_call2 rfl h1 h8
set_option maxRecDepth 30000 in
theorem e_220_181 {ls : ab_L} {st : List Value} {w : ab_W} {x : Int32} : ab_Run ab_mt 220 181 ls (.int x :: st) w = ab_Run ab_mt 220 183 (ab_l1 ls 5 (.int x)) st w := E_stori (n := 2) rfl
set_option maxRecDepth 30000 in
theorem e_220_183 {ls : ab_L} {st : List Value} {w : ab_W} (h : ab_isR (ls 2) = true) : ab_Run ab_mt 220 183 ls st w = ab_Run ab_mt 220 184 ls (ab_gv (ls 2) :: st) w := E_loadr (n := 1) rfl h
set_option maxRecDepth 30000 in
theorem e_220_184 {ls : ab_L} {st : List Value} {w : ab_W} {v0 : Value} (h1 : ab_recv ab_mt 127 [v0] w.2 = true) (h8 : ab_w8 st = true) : ab_Run ab_mt 220 184 ls (v0 :: st) w = ab_aft 127 220 184 ls st (ab_Cl 127 [v0] w) := E_call1 rfl h1 h8
set_option maxRecDepth 30000 in
theorem e_220_187 {ls : ab_L} {st : List Value} {w : ab_W} {x : Int32} : ab_Run ab_mt 220 187 ls (.int x :: st) w = ab_Run ab_mt 220 189 (ab_l1 ls 6 (.int x)) st w := E_stori (n := 2) rfl
set_option maxRecDepth 30000 in
theorem e_220_189 {ls : ab_L} {st : List Value} {w : ab_W} (h : ab_isR (ls 2) = true) : ab_Run ab_mt 220 189 ls st w = ab_Run ab_mt 220 190 ls (ab_gv (ls 2) :: st) w := E_loadr (n := 1) rfl h
set_option maxRecDepth 30000 in
theorem e_220_190 {ls : ab_L} {st : List Value} {w : ab_W} {v0 : Value} (h1 : ab_recv ab_mt 106 [v0] w.2 = true) (h8 : ab_w8 st = true) : ab_Run ab_mt 220 190 ls (v0 :: st) w = ab_aft 106 220 190 ls st (ab_Cl 106 [v0] w) := E_call1 rfl h1 h8
set_option maxRecDepth 30000 in
theorem e_220_193 {ls : ab_L} {st : List Value} {w : ab_W} (h : ab_isI (ls 5) = true) : ab_Run ab_mt 220 193 ls st w = ab_Run ab_mt 220 195 ls (ab_gv (ls 5) :: st) w := E_loadi (n := 2) rfl h
set_option maxRecDepth 30000 in
theorem e_220_195 {ls : ab_L} {st : List Value} {w : ab_W} {x y : Int32} : ab_Run ab_mt 220 195 ls (.int y :: .int x :: st) w = if x = y then ab_Run ab_mt 220 200 ls st w else ab_Run ab_mt 220 198 ls st w := E_ic_eq rfl
set_option maxRecDepth 30000 in
theorem e_220_198 {ls : ab_L} {st : List Value} {w : ab_W} : ab_Run ab_mt 220 198 ls st w = ab_Run ab_mt 220 199 ls (.int (nI 0) :: st) w := E_push (n := 1) rfl
set_option maxRecDepth 30000 in
theorem e_220_199 {ls : ab_L} {w : ab_W} {x : Int32} (h : ab_fitr 2 (.int x) = true) : ab_Run ab_mt 220 199 ls [.int x] w = some (.inl (some (.int x)), w) := E_retz rfl h
set_option maxRecDepth 30000 in
theorem e_220_200 {ls : ab_L} {st : List Value} {w : ab_W} (h : ab_isI (ls 5) = true) : ab_Run ab_mt 220 200 ls st w = ab_Run ab_mt 220 202 ls (ab_gv (ls 5) :: st) w := E_loadi (n := 2) rfl h
set_option maxRecDepth 30000 in
theorem e_220_202 {ls : ab_L} {st : List Value} {w : ab_W} {x : Int32} : ab_Run ab_mt 220 202 ls (.int x :: st) w = if x = 0 then ab_Run ab_mt 220 205 ls st w else ab_Run ab_mt 220 217 ls st w := E_if_ne rfl
set_option maxRecDepth 30000 in
theorem e_220_205 {ls : ab_L} {st : List Value} {w : ab_W} (h : ab_isR (ls 3) = true) : ab_Run ab_mt 220 205 ls st w = ab_Run ab_mt 220 206 ls (ab_gv (ls 3) :: st) w := E_loadr (n := 1) rfl h
set_option maxRecDepth 30000 in
theorem e_220_206 {ls : ab_L} {st : List Value} {w : ab_W} : ab_Run ab_mt 220 206 ls st w = ab_Run ab_mt 220 207 ls (.int (nI 0) :: st) w := E_push (n := 1) rfl
set_option maxRecDepth 30000 in
theorem e_220_207 {ls : ab_L} {st : List Value} {w : ab_W} {a : Nat} {i : Int32} (h : ab_inL i (w.2 a) = true) : ab_Run ab_mt 220 207 ls (.int i :: .ref a :: st) w = ab_Run ab_mt 220 208 ls (.long (ab_aL i.toNatClampNeg (w.2 a)) :: st) w := E_lald rfl h
set_option maxRecDepth 30000 in
theorem e_220_208 {ls : ab_L} {st : List Value} {w : ab_W} (h : ab_isI (ls 6) = true) : ab_Run ab_mt 220 208 ls st w = ab_Run ab_mt 220 210 ls (ab_gv (ls 6) :: st) w := E_loadi (n := 2) rfl h
set_option maxRecDepth 30000 in
theorem e_220_210 {ls : ab_L} {st : List Value} {w : ab_W} {x : Int32} : ab_Run ab_mt 220 210 ls (.int x :: st) w = ab_Run ab_mt 220 211 ls (.long x.toInt64 :: st) w := E_i2l rfl
set_option maxRecDepth 30000 in
theorem e_220_211 {ls : ab_L} {st : List Value} {w : ab_W} {x y : Int64} : ab_Run ab_mt 220 211 ls (.long y :: .long x :: st) w = ab_Run ab_mt 220 212 ls (.int (lg_cmp x y) :: st) w := E_lcmp rfl
set_option maxRecDepth 30000 in
theorem e_220_212 {ls : ab_L} {st : List Value} {w : ab_W} {x : Int32} : ab_Run ab_mt 220 212 ls (.int x :: st) w = if x = 0 then ab_Run ab_mt 220 217 ls st w else ab_Run ab_mt 220 215 ls st w := E_if_eq rfl
set_option maxRecDepth 30000 in
theorem e_220_215 {ls : ab_L} {st : List Value} {w : ab_W} : ab_Run ab_mt 220 215 ls st w = ab_Run ab_mt 220 216 ls (.int (nI 0) :: st) w := E_push (n := 1) rfl
set_option maxRecDepth 30000 in
theorem e_220_216 {ls : ab_L} {w : ab_W} {x : Int32} (h : ab_fitr 2 (.int x) = true) : ab_Run ab_mt 220 216 ls [.int x] w = some (.inl (some (.int x)), w) := E_retz rfl h
set_option maxRecDepth 30000 in
theorem e_220_217 {ls : ab_L} {st : List Value} {w : ab_W} : ab_Run ab_mt 220 217 ls st w = ab_Run ab_mt 220 2053 ls st w := E_goto rfl
set_option maxRecDepth 30000 in
theorem e_220_220 {ls : ab_L} {st : List Value} {w : ab_W} (h : ab_isR (ls 1) = true) : ab_Run ab_mt 220 220 ls st w = ab_Run ab_mt 220 221 ls (ab_gv (ls 1) :: st) w := E_loadr (n := 1) rfl h
set_option maxRecDepth 30000 in
theorem e_220_221 {ls : ab_L} {st : List Value} {w : ab_W} (h : ab_isR (ls 0) = true) : ab_Run ab_mt 220 221 ls st w = ab_Run ab_mt 220 222 ls (ab_gv (ls 0) :: st) w := E_loadr (n := 1) rfl h
set_option maxRecDepth 30000 in
theorem e_220_222 {ls : ab_L} {st : List Value} {w : ab_W} (h : ab_isI (ls 4) = true) : ab_Run ab_mt 220 222 ls st w = ab_Run ab_mt 220 224 ls (ab_gv (ls 4) :: st) w := E_loadi (n := 2) rfl h
set_option maxRecDepth 30000 in
theorem e_220_224 {ls : ab_L} {st : List Value} {w : ab_W} : ab_Run ab_mt 220 224 ls st w = ab_Run ab_mt 220 225 ls (.int (nI 1) :: st) w := E_push (n := 1) rfl
set_option maxRecDepth 30000 in
theorem e_220_225 {ls : ab_L} {st : List Value} {w : ab_W} {x y : Int32} : ab_Run ab_mt 220 225 ls (.int y :: .int x :: st) w = ab_Run ab_mt 220 226 ls (.int (x + y) :: st) w := E_ib (f := fun x y => x + y) rfl
set_option maxRecDepth 30000 in
theorem e_220_226 {ls : ab_L} {st : List Value} {w : ab_W} {a : Nat} {i : Int32} (h : ab_inI i (w.2 a) = true) : ab_Run ab_mt 220 226 ls (.int i :: .ref a :: st) w = ab_Run ab_mt 220 227 ls (.int (ab_aI i.toNatClampNeg (w.2 a)) :: st) w := E_iald rfl h
set_option maxRecDepth 30000 in
theorem e_220_227 {ls : ab_L} {st : List Value} {w : ab_W} (h : ab_isR (ls 0) = true) : ab_Run ab_mt 220 227 ls st w = ab_Run ab_mt 220 228 ls (ab_gv (ls 0) :: st) w := E_loadr (n := 1) rfl h
set_option maxRecDepth 30000 in
theorem e_220_228 {ls : ab_L} {st : List Value} {w : ab_W} (h : ab_isI (ls 4) = true) : ab_Run ab_mt 220 228 ls st w = ab_Run ab_mt 220 230 ls (ab_gv (ls 4) :: st) w := E_loadi (n := 2) rfl h
set_option maxRecDepth 30000 in
theorem e_220_230 {ls : ab_L} {st : List Value} {w : ab_W} : ab_Run ab_mt 220 230 ls st w = ab_Run ab_mt 220 231 ls (.int (nI 2) :: st) w := E_push (n := 1) rfl
set_option maxRecDepth 30000 in
theorem e_220_231 {ls : ab_L} {st : List Value} {w : ab_W} {x y : Int32} : ab_Run ab_mt 220 231 ls (.int y :: .int x :: st) w = ab_Run ab_mt 220 232 ls (.int (x + y) :: st) w := E_ib (f := fun x y => x + y) rfl
set_option maxRecDepth 30000 in
theorem e_220_232 {ls : ab_L} {st : List Value} {w : ab_W} {a : Nat} {i : Int32} (h : ab_inI i (w.2 a) = true) : ab_Run ab_mt 220 232 ls (.int i :: .ref a :: st) w = ab_Run ab_mt 220 233 ls (.int (ab_aI i.toNatClampNeg (w.2 a)) :: st) w := E_iald rfl h
set_option maxRecDepth 30000 in
theorem e_220_233 {ls : ab_L} {st : List Value} {w : ab_W} (h : ab_isR (ls 3) = true) : ab_Run ab_mt 220 233 ls st w = ab_Run ab_mt 220 234 ls (ab_gv (ls 3) :: st) w := E_loadr (n := 1) rfl h
set_option maxRecDepth 30000 in
theorem e_220_234 {ls : ab_L} {st : List Value} {w : ab_W} {v0 v1 v2 v3 : Value} (h1 : ab_recv ab_mt 194 [v0, v1, v2, v3] w.2 = true) (h8 : ab_w8 st = true) : ab_Run ab_mt 220 234 ls (v3 :: v2 :: v1 :: v0 :: st) w = ab_aft 194 220 234 ls st (ab_Cl 194 [v0, v1, v2, v3] w) := E_call4 rfl h1 h8
set_option maxRecDepth 30000 in
theorem e_220_237 {ls : ab_L} {st : List Value} {w : ab_W} {x : Int32} : ab_Run ab_mt 220 237 ls (.int x :: st) w = ab_Run ab_mt 220 239 (ab_l1 ls 5 (.int x)) st w := E_stori (n := 2) rfl
set_option maxRecDepth 30000 in
theorem e_220_239 {ls : ab_L} {st : List Value} {w : ab_W} (h : ab_isR (ls 2) = true) : ab_Run ab_mt 220 239 ls st w = ab_Run ab_mt 220 240 ls (ab_gv (ls 2) :: st) w := E_loadr (n := 1) rfl h
set_option maxRecDepth 30000 in
theorem e_220_240 {ls : ab_L} {st : List Value} {w : ab_W} (h : ab_isR (ls 0) = true) : ab_Run ab_mt 220 240 ls st w = ab_Run ab_mt 220 241 ls (ab_gv (ls 0) :: st) w := E_loadr (n := 1) rfl h
set_option maxRecDepth 30000 in
theorem e_220_241 {ls : ab_L} {st : List Value} {w : ab_W} (h : ab_isI (ls 4) = true) : ab_Run ab_mt 220 241 ls st w = ab_Run ab_mt 220 243 ls (ab_gv (ls 4) :: st) w := E_loadi (n := 2) rfl h
set_option maxRecDepth 30000 in
theorem e_220_243 {ls : ab_L} {st : List Value} {w : ab_W} : ab_Run ab_mt 220 243 ls st w = ab_Run ab_mt 220 244 ls (.int (nI 1) :: st) w := E_push (n := 1) rfl
set_option maxRecDepth 30000 in
theorem e_220_244 {ls : ab_L} {st : List Value} {w : ab_W} {x y : Int32} : ab_Run ab_mt 220 244 ls (.int y :: .int x :: st) w = ab_Run ab_mt 220 245 ls (.int (x + y) :: st) w := E_ib (f := fun x y => x + y) rfl
set_option maxRecDepth 30000 in
theorem e_220_245 {ls : ab_L} {st : List Value} {w : ab_W} {a : Nat} {i : Int32} (h : ab_inI i (w.2 a) = true) : ab_Run ab_mt 220 245 ls (.int i :: .ref a :: st) w = ab_Run ab_mt 220 246 ls (.int (ab_aI i.toNatClampNeg (w.2 a)) :: st) w := E_iald rfl h
set_option maxRecDepth 30000 in
theorem e_220_246 {ls : ab_L} {st : List Value} {w : ab_W} (h : ab_isR (ls 0) = true) : ab_Run ab_mt 220 246 ls st w = ab_Run ab_mt 220 247 ls (ab_gv (ls 0) :: st) w := E_loadr (n := 1) rfl h
set_option maxRecDepth 30000 in
theorem e_220_247 {ls : ab_L} {st : List Value} {w : ab_W} (h : ab_isI (ls 4) = true) : ab_Run ab_mt 220 247 ls st w = ab_Run ab_mt 220 249 ls (ab_gv (ls 4) :: st) w := E_loadi (n := 2) rfl h
set_option maxRecDepth 30000 in
theorem e_220_249 {ls : ab_L} {st : List Value} {w : ab_W} : ab_Run ab_mt 220 249 ls st w = ab_Run ab_mt 220 250 ls (.int (nI 2) :: st) w := E_push (n := 1) rfl
set_option maxRecDepth 30000 in
theorem e_220_250 {ls : ab_L} {st : List Value} {w : ab_W} {x y : Int32} : ab_Run ab_mt 220 250 ls (.int y :: .int x :: st) w = ab_Run ab_mt 220 251 ls (.int (x + y) :: st) w := E_ib (f := fun x y => x + y) rfl
set_option maxRecDepth 30000 in
theorem e_220_251 {ls : ab_L} {st : List Value} {w : ab_W} {a : Nat} {i : Int32} (h : ab_inI i (w.2 a) = true) : ab_Run ab_mt 220 251 ls (.int i :: .ref a :: st) w = ab_Run ab_mt 220 252 ls (.int (ab_aI i.toNatClampNeg (w.2 a)) :: st) w := E_iald rfl h
set_option maxRecDepth 30000 in
theorem e_220_252 {ls : ab_L} {st : List Value} {w : ab_W} {v0 v1 v2 : Value} (h1 : ab_recv ab_mt 129 [v0, v1, v2] w.2 = true) (h8 : ab_w8 st = true) : ab_Run ab_mt 220 252 ls (v2 :: v1 :: v0 :: st) w = ab_aft 129 220 252 ls st (ab_Cl 129 [v0, v1, v2] w) := E_call3 rfl h1 h8
set_option maxRecDepth 30000 in
theorem e_220_255 {ls : ab_L} {st : List Value} {w : ab_W} {x : Int32} : ab_Run ab_mt 220 255 ls (.int x :: st) w = ab_Run ab_mt 220 257 (ab_l1 ls 6 (.int x)) st w := E_stori (n := 2) rfl
set_option maxRecDepth 30000 in
theorem e_220_257 {ls : ab_L} {st : List Value} {w : ab_W} (h : ab_isR (ls 2) = true) : ab_Run ab_mt 220 257 ls st w = ab_Run ab_mt 220 258 ls (ab_gv (ls 2) :: st) w := E_loadr (n := 1) rfl h
set_option maxRecDepth 30000 in
theorem e_220_258 {ls : ab_L} {st : List Value} {w : ab_W} {v0 : Value} (h1 : ab_recv ab_mt 106 [v0] w.2 = true) (h8 : ab_w8 st = true) : ab_Run ab_mt 220 258 ls (v0 :: st) w = ab_aft 106 220 258 ls st (ab_Cl 106 [v0] w) := E_call1 rfl h1 h8
set_option maxRecDepth 30000 in
theorem e_220_261 {ls : ab_L} {st : List Value} {w : ab_W} (h : ab_isI (ls 5) = true) : ab_Run ab_mt 220 261 ls st w = ab_Run ab_mt 220 263 ls (ab_gv (ls 5) :: st) w := E_loadi (n := 2) rfl h
set_option maxRecDepth 30000 in
theorem e_220_263 {ls : ab_L} {st : List Value} {w : ab_W} {x y : Int32} : ab_Run ab_mt 220 263 ls (.int y :: .int x :: st) w = if x = y then ab_Run ab_mt 220 268 ls st w else ab_Run ab_mt 220 266 ls st w := E_ic_eq rfl
set_option maxRecDepth 30000 in
theorem e_220_266 {ls : ab_L} {st : List Value} {w : ab_W} : ab_Run ab_mt 220 266 ls st w = ab_Run ab_mt 220 267 ls (.int (nI 0) :: st) w := E_push (n := 1) rfl
set_option maxRecDepth 30000 in
theorem e_220_267 {ls : ab_L} {w : ab_W} {x : Int32} (h : ab_fitr 2 (.int x) = true) : ab_Run ab_mt 220 267 ls [.int x] w = some (.inl (some (.int x)), w) := E_retz rfl h
set_option maxRecDepth 30000 in
theorem e_220_268 {ls : ab_L} {st : List Value} {w : ab_W} (h : ab_isI (ls 5) = true) : ab_Run ab_mt 220 268 ls st w = ab_Run ab_mt 220 270 ls (ab_gv (ls 5) :: st) w := E_loadi (n := 2) rfl h
set_option maxRecDepth 30000 in
theorem e_220_270 {ls : ab_L} {st : List Value} {w : ab_W} {x : Int32} : ab_Run ab_mt 220 270 ls (.int x :: st) w = if x = 0 then ab_Run ab_mt 220 273 ls st w else ab_Run ab_mt 220 285 ls st w := E_if_ne rfl
set_option maxRecDepth 30000 in
theorem e_220_273 {ls : ab_L} {st : List Value} {w : ab_W} (h : ab_isR (ls 3) = true) : ab_Run ab_mt 220 273 ls st w = ab_Run ab_mt 220 274 ls (ab_gv (ls 3) :: st) w := E_loadr (n := 1) rfl h
set_option maxRecDepth 30000 in
theorem e_220_274 {ls : ab_L} {st : List Value} {w : ab_W} : ab_Run ab_mt 220 274 ls st w = ab_Run ab_mt 220 275 ls (.int (nI 0) :: st) w := E_push (n := 1) rfl
set_option maxRecDepth 30000 in
theorem e_220_275 {ls : ab_L} {st : List Value} {w : ab_W} {a : Nat} {i : Int32} (h : ab_inL i (w.2 a) = true) : ab_Run ab_mt 220 275 ls (.int i :: .ref a :: st) w = ab_Run ab_mt 220 276 ls (.long (ab_aL i.toNatClampNeg (w.2 a)) :: st) w := E_lald rfl h
set_option maxRecDepth 30000 in
theorem e_220_276 {ls : ab_L} {st : List Value} {w : ab_W} (h : ab_isI (ls 6) = true) : ab_Run ab_mt 220 276 ls st w = ab_Run ab_mt 220 278 ls (ab_gv (ls 6) :: st) w := E_loadi (n := 2) rfl h
set_option maxRecDepth 30000 in
theorem e_220_278 {ls : ab_L} {st : List Value} {w : ab_W} {x : Int32} : ab_Run ab_mt 220 278 ls (.int x :: st) w = ab_Run ab_mt 220 279 ls (.long x.toInt64 :: st) w := E_i2l rfl
set_option maxRecDepth 30000 in
theorem e_220_279 {ls : ab_L} {st : List Value} {w : ab_W} {x y : Int64} : ab_Run ab_mt 220 279 ls (.long y :: .long x :: st) w = ab_Run ab_mt 220 280 ls (.int (lg_cmp x y) :: st) w := E_lcmp rfl
set_option maxRecDepth 30000 in
theorem e_220_280 {ls : ab_L} {st : List Value} {w : ab_W} {x : Int32} : ab_Run ab_mt 220 280 ls (.int x :: st) w = if x = 0 then ab_Run ab_mt 220 285 ls st w else ab_Run ab_mt 220 283 ls st w := E_if_eq rfl
set_option maxRecDepth 30000 in
theorem e_220_283 {ls : ab_L} {st : List Value} {w : ab_W} : ab_Run ab_mt 220 283 ls st w = ab_Run ab_mt 220 284 ls (.int (nI 0) :: st) w := E_push (n := 1) rfl
set_option maxRecDepth 30000 in
theorem e_220_284 {ls : ab_L} {w : ab_W} {x : Int32} (h : ab_fitr 2 (.int x) = true) : ab_Run ab_mt 220 284 ls [.int x] w = some (.inl (some (.int x)), w) := E_retz rfl h
set_option maxRecDepth 30000 in
theorem e_220_285 {ls : ab_L} {st : List Value} {w : ab_W} : ab_Run ab_mt 220 285 ls st w = ab_Run ab_mt 220 2053 ls st w := E_goto rfl
set_option maxRecDepth 30000 in
theorem e_220_288 {ls : ab_L} {st : List Value} {w : ab_W} (h : ab_isR (ls 1) = true) : ab_Run ab_mt 220 288 ls st w = ab_Run ab_mt 220 289 ls (ab_gv (ls 1) :: st) w := E_loadr (n := 1) rfl h
set_option maxRecDepth 30000 in
theorem e_220_289 {ls : ab_L} {st : List Value} {w : ab_W} (h : ab_isR (ls 0) = true) : ab_Run ab_mt 220 289 ls st w = ab_Run ab_mt 220 290 ls (ab_gv (ls 0) :: st) w := E_loadr (n := 1) rfl h
set_option maxRecDepth 30000 in
theorem e_220_290 {ls : ab_L} {st : List Value} {w : ab_W} (h : ab_isI (ls 4) = true) : ab_Run ab_mt 220 290 ls st w = ab_Run ab_mt 220 292 ls (ab_gv (ls 4) :: st) w := E_loadi (n := 2) rfl h
set_option maxRecDepth 30000 in
theorem e_220_292 {ls : ab_L} {st : List Value} {w : ab_W} : ab_Run ab_mt 220 292 ls st w = ab_Run ab_mt 220 293 ls (.int (nI 1) :: st) w := E_push (n := 1) rfl
set_option maxRecDepth 30000 in
theorem e_220_293 {ls : ab_L} {st : List Value} {w : ab_W} {x y : Int32} : ab_Run ab_mt 220 293 ls (.int y :: .int x :: st) w = ab_Run ab_mt 220 294 ls (.int (x + y) :: st) w := E_ib (f := fun x y => x + y) rfl
set_option maxRecDepth 30000 in
theorem e_220_294 {ls : ab_L} {st : List Value} {w : ab_W} {a : Nat} {i : Int32} (h : ab_inI i (w.2 a) = true) : ab_Run ab_mt 220 294 ls (.int i :: .ref a :: st) w = ab_Run ab_mt 220 295 ls (.int (ab_aI i.toNatClampNeg (w.2 a)) :: st) w := E_iald rfl h
set_option maxRecDepth 30000 in
theorem e_220_295 {ls : ab_L} {st : List Value} {w : ab_W} (h : ab_isR (ls 0) = true) : ab_Run ab_mt 220 295 ls st w = ab_Run ab_mt 220 296 ls (ab_gv (ls 0) :: st) w := E_loadr (n := 1) rfl h
set_option maxRecDepth 30000 in
theorem e_220_296 {ls : ab_L} {st : List Value} {w : ab_W} (h : ab_isI (ls 4) = true) : ab_Run ab_mt 220 296 ls st w = ab_Run ab_mt 220 298 ls (ab_gv (ls 4) :: st) w := E_loadi (n := 2) rfl h
set_option maxRecDepth 30000 in
theorem e_220_298 {ls : ab_L} {st : List Value} {w : ab_W} : ab_Run ab_mt 220 298 ls st w = ab_Run ab_mt 220 299 ls (.int (nI 2) :: st) w := E_push (n := 1) rfl
set_option maxRecDepth 30000 in
theorem e_220_299 {ls : ab_L} {st : List Value} {w : ab_W} {x y : Int32} : ab_Run ab_mt 220 299 ls (.int y :: .int x :: st) w = ab_Run ab_mt 220 300 ls (.int (x + y) :: st) w := E_ib (f := fun x y => x + y) rfl
set_option maxRecDepth 30000 in
theorem e_220_300 {ls : ab_L} {st : List Value} {w : ab_W} {a : Nat} {i : Int32} (h : ab_inI i (w.2 a) = true) : ab_Run ab_mt 220 300 ls (.int i :: .ref a :: st) w = ab_Run ab_mt 220 301 ls (.int (ab_aI i.toNatClampNeg (w.2 a)) :: st) w := E_iald rfl h
set_option maxRecDepth 30000 in
theorem e_220_301 {ls : ab_L} {st : List Value} {w : ab_W} (h : ab_isR (ls 0) = true) : ab_Run ab_mt 220 301 ls st w = ab_Run ab_mt 220 302 ls (ab_gv (ls 0) :: st) w := E_loadr (n := 1) rfl h
set_option maxRecDepth 30000 in
theorem e_220_302 {ls : ab_L} {st : List Value} {w : ab_W} (h : ab_isI (ls 4) = true) : ab_Run ab_mt 220 302 ls st w = ab_Run ab_mt 220 304 ls (ab_gv (ls 4) :: st) w := E_loadi (n := 2) rfl h
set_option maxRecDepth 30000 in
theorem e_220_304 {ls : ab_L} {st : List Value} {w : ab_W} : ab_Run ab_mt 220 304 ls st w = ab_Run ab_mt 220 305 ls (.int (nI 3) :: st) w := E_push (n := 1) rfl
set_option maxRecDepth 30000 in
theorem e_220_305 {ls : ab_L} {st : List Value} {w : ab_W} {x y : Int32} : ab_Run ab_mt 220 305 ls (.int y :: .int x :: st) w = ab_Run ab_mt 220 306 ls (.int (x + y) :: st) w := E_ib (f := fun x y => x + y) rfl
set_option maxRecDepth 30000 in
theorem e_220_306 {ls : ab_L} {st : List Value} {w : ab_W} {a : Nat} {i : Int32} (h : ab_inI i (w.2 a) = true) : ab_Run ab_mt 220 306 ls (.int i :: .ref a :: st) w = ab_Run ab_mt 220 307 ls (.int (ab_aI i.toNatClampNeg (w.2 a)) :: st) w := E_iald rfl h
set_option maxRecDepth 30000 in
theorem e_220_307 {ls : ab_L} {st : List Value} {w : ab_W} (h : ab_isR (ls 3) = true) : ab_Run ab_mt 220 307 ls st w = ab_Run ab_mt 220 308 ls (ab_gv (ls 3) :: st) w := E_loadr (n := 1) rfl h
set_option maxRecDepth 30000 in
theorem e_220_308 {ls : ab_L} {st : List Value} {w : ab_W} {v0 v1 v2 v3 v4 : Value} (h1 : ab_recv ab_mt 195 [v0, v1, v2, v3, v4] w.2 = true) (h8 : ab_w8 st = true) : ab_Run ab_mt 220 308 ls (v4 :: v3 :: v2 :: v1 :: v0 :: st) w = ab_aft 195 220 308 ls st (ab_Cl 195 [v0, v1, v2, v3, v4] w) := E_call5 rfl h1 h8
set_option maxRecDepth 30000 in
theorem e_220_311 {ls : ab_L} {st : List Value} {w : ab_W} {x : Int32} : ab_Run ab_mt 220 311 ls (.int x :: st) w = ab_Run ab_mt 220 313 (ab_l1 ls 5 (.int x)) st w := E_stori (n := 2) rfl
set_option maxRecDepth 30000 in
theorem e_220_313 {ls : ab_L} {st : List Value} {w : ab_W} (h : ab_isR (ls 2) = true) : ab_Run ab_mt 220 313 ls st w = ab_Run ab_mt 220 314 ls (ab_gv (ls 2) :: st) w := E_loadr (n := 1) rfl h
set_option maxRecDepth 30000 in
theorem e_220_314 {ls : ab_L} {st : List Value} {w : ab_W} (h : ab_isR (ls 0) = true) : ab_Run ab_mt 220 314 ls st w = ab_Run ab_mt 220 315 ls (ab_gv (ls 0) :: st) w := E_loadr (n := 1) rfl h
set_option maxRecDepth 30000 in
theorem e_220_315 {ls : ab_L} {st : List Value} {w : ab_W} (h : ab_isI (ls 4) = true) : ab_Run ab_mt 220 315 ls st w = ab_Run ab_mt 220 317 ls (ab_gv (ls 4) :: st) w := E_loadi (n := 2) rfl h
set_option maxRecDepth 30000 in
theorem e_220_317 {ls : ab_L} {st : List Value} {w : ab_W} : ab_Run ab_mt 220 317 ls st w = ab_Run ab_mt 220 318 ls (.int (nI 1) :: st) w := E_push (n := 1) rfl
set_option maxRecDepth 30000 in
theorem e_220_318 {ls : ab_L} {st : List Value} {w : ab_W} {x y : Int32} : ab_Run ab_mt 220 318 ls (.int y :: .int x :: st) w = ab_Run ab_mt 220 319 ls (.int (x + y) :: st) w := E_ib (f := fun x y => x + y) rfl
set_option maxRecDepth 30000 in
theorem e_220_319 {ls : ab_L} {st : List Value} {w : ab_W} {a : Nat} {i : Int32} (h : ab_inI i (w.2 a) = true) : ab_Run ab_mt 220 319 ls (.int i :: .ref a :: st) w = ab_Run ab_mt 220 320 ls (.int (ab_aI i.toNatClampNeg (w.2 a)) :: st) w := E_iald rfl h
set_option maxRecDepth 30000 in
theorem e_220_320 {ls : ab_L} {st : List Value} {w : ab_W} (h : ab_isR (ls 0) = true) : ab_Run ab_mt 220 320 ls st w = ab_Run ab_mt 220 321 ls (ab_gv (ls 0) :: st) w := E_loadr (n := 1) rfl h
set_option maxRecDepth 30000 in
theorem e_220_321 {ls : ab_L} {st : List Value} {w : ab_W} (h : ab_isI (ls 4) = true) : ab_Run ab_mt 220 321 ls st w = ab_Run ab_mt 220 323 ls (ab_gv (ls 4) :: st) w := E_loadi (n := 2) rfl h
set_option maxRecDepth 30000 in
theorem e_220_323 {ls : ab_L} {st : List Value} {w : ab_W} : ab_Run ab_mt 220 323 ls st w = ab_Run ab_mt 220 324 ls (.int (nI 2) :: st) w := E_push (n := 1) rfl
set_option maxRecDepth 30000 in
theorem e_220_324 {ls : ab_L} {st : List Value} {w : ab_W} {x y : Int32} : ab_Run ab_mt 220 324 ls (.int y :: .int x :: st) w = ab_Run ab_mt 220 325 ls (.int (x + y) :: st) w := E_ib (f := fun x y => x + y) rfl
set_option maxRecDepth 30000 in
theorem e_220_325 {ls : ab_L} {st : List Value} {w : ab_W} {a : Nat} {i : Int32} (h : ab_inI i (w.2 a) = true) : ab_Run ab_mt 220 325 ls (.int i :: .ref a :: st) w = ab_Run ab_mt 220 326 ls (.int (ab_aI i.toNatClampNeg (w.2 a)) :: st) w := E_iald rfl h
set_option maxRecDepth 30000 in
theorem e_220_326 {ls : ab_L} {st : List Value} {w : ab_W} (h : ab_isR (ls 0) = true) : ab_Run ab_mt 220 326 ls st w = ab_Run ab_mt 220 327 ls (ab_gv (ls 0) :: st) w := E_loadr (n := 1) rfl h
set_option maxRecDepth 30000 in
theorem e_220_327 {ls : ab_L} {st : List Value} {w : ab_W} (h : ab_isI (ls 4) = true) : ab_Run ab_mt 220 327 ls st w = ab_Run ab_mt 220 329 ls (ab_gv (ls 4) :: st) w := E_loadi (n := 2) rfl h
set_option maxRecDepth 30000 in
theorem e_220_329 {ls : ab_L} {st : List Value} {w : ab_W} : ab_Run ab_mt 220 329 ls st w = ab_Run ab_mt 220 330 ls (.int (nI 3) :: st) w := E_push (n := 1) rfl
set_option maxRecDepth 30000 in
theorem e_220_330 {ls : ab_L} {st : List Value} {w : ab_W} {x y : Int32} : ab_Run ab_mt 220 330 ls (.int y :: .int x :: st) w = ab_Run ab_mt 220 331 ls (.int (x + y) :: st) w := E_ib (f := fun x y => x + y) rfl
set_option maxRecDepth 30000 in
theorem e_220_331 {ls : ab_L} {st : List Value} {w : ab_W} {a : Nat} {i : Int32} (h : ab_inI i (w.2 a) = true) : ab_Run ab_mt 220 331 ls (.int i :: .ref a :: st) w = ab_Run ab_mt 220 332 ls (.int (ab_aI i.toNatClampNeg (w.2 a)) :: st) w := E_iald rfl h
set_option maxRecDepth 30000 in
theorem e_220_332 {ls : ab_L} {st : List Value} {w : ab_W} {v0 v1 v2 v3 : Value} (h1 : ab_recv ab_mt 131 [v0, v1, v2, v3] w.2 = true) (h8 : ab_w8 st = true) : ab_Run ab_mt 220 332 ls (v3 :: v2 :: v1 :: v0 :: st) w = ab_aft 131 220 332 ls st (ab_Cl 131 [v0, v1, v2, v3] w) := E_call4 rfl h1 h8
set_option maxRecDepth 30000 in
theorem e_220_335 {ls : ab_L} {st : List Value} {w : ab_W} {x : Int32} : ab_Run ab_mt 220 335 ls (.int x :: st) w = ab_Run ab_mt 220 337 (ab_l1 ls 6 (.int x)) st w := E_stori (n := 2) rfl
set_option maxRecDepth 30000 in
theorem e_220_337 {ls : ab_L} {st : List Value} {w : ab_W} (h : ab_isR (ls 2) = true) : ab_Run ab_mt 220 337 ls st w = ab_Run ab_mt 220 338 ls (ab_gv (ls 2) :: st) w := E_loadr (n := 1) rfl h
set_option maxRecDepth 30000 in
theorem e_220_338 {ls : ab_L} {st : List Value} {w : ab_W} {v0 : Value} (h1 : ab_recv ab_mt 106 [v0] w.2 = true) (h8 : ab_w8 st = true) : ab_Run ab_mt 220 338 ls (v0 :: st) w = ab_aft 106 220 338 ls st (ab_Cl 106 [v0] w) := E_call1 rfl h1 h8
set_option maxRecDepth 30000 in
theorem e_220_341 {ls : ab_L} {st : List Value} {w : ab_W} (h : ab_isI (ls 5) = true) : ab_Run ab_mt 220 341 ls st w = ab_Run ab_mt 220 343 ls (ab_gv (ls 5) :: st) w := E_loadi (n := 2) rfl h
set_option maxRecDepth 30000 in
theorem e_220_343 {ls : ab_L} {st : List Value} {w : ab_W} {x y : Int32} : ab_Run ab_mt 220 343 ls (.int y :: .int x :: st) w = if x = y then ab_Run ab_mt 220 348 ls st w else ab_Run ab_mt 220 346 ls st w := E_ic_eq rfl
set_option maxRecDepth 30000 in
theorem e_220_346 {ls : ab_L} {st : List Value} {w : ab_W} : ab_Run ab_mt 220 346 ls st w = ab_Run ab_mt 220 347 ls (.int (nI 0) :: st) w := E_push (n := 1) rfl
set_option maxRecDepth 30000 in
theorem e_220_347 {ls : ab_L} {w : ab_W} {x : Int32} (h : ab_fitr 2 (.int x) = true) : ab_Run ab_mt 220 347 ls [.int x] w = some (.inl (some (.int x)), w) := E_retz rfl h
set_option maxRecDepth 30000 in
theorem e_220_348 {ls : ab_L} {st : List Value} {w : ab_W} (h : ab_isI (ls 5) = true) : ab_Run ab_mt 220 348 ls st w = ab_Run ab_mt 220 350 ls (ab_gv (ls 5) :: st) w := E_loadi (n := 2) rfl h
set_option maxRecDepth 30000 in
theorem e_220_350 {ls : ab_L} {st : List Value} {w : ab_W} {x : Int32} : ab_Run ab_mt 220 350 ls (.int x :: st) w = if x = 0 then ab_Run ab_mt 220 353 ls st w else ab_Run ab_mt 220 365 ls st w := E_if_ne rfl
set_option maxRecDepth 30000 in
theorem e_220_353 {ls : ab_L} {st : List Value} {w : ab_W} (h : ab_isR (ls 3) = true) : ab_Run ab_mt 220 353 ls st w = ab_Run ab_mt 220 354 ls (ab_gv (ls 3) :: st) w := E_loadr (n := 1) rfl h
set_option maxRecDepth 30000 in
theorem e_220_354 {ls : ab_L} {st : List Value} {w : ab_W} : ab_Run ab_mt 220 354 ls st w = ab_Run ab_mt 220 355 ls (.int (nI 0) :: st) w := E_push (n := 1) rfl
set_option maxRecDepth 30000 in
theorem e_220_355 {ls : ab_L} {st : List Value} {w : ab_W} {a : Nat} {i : Int32} (h : ab_inL i (w.2 a) = true) : ab_Run ab_mt 220 355 ls (.int i :: .ref a :: st) w = ab_Run ab_mt 220 356 ls (.long (ab_aL i.toNatClampNeg (w.2 a)) :: st) w := E_lald rfl h
set_option maxRecDepth 30000 in
theorem e_220_356 {ls : ab_L} {st : List Value} {w : ab_W} (h : ab_isI (ls 6) = true) : ab_Run ab_mt 220 356 ls st w = ab_Run ab_mt 220 358 ls (ab_gv (ls 6) :: st) w := E_loadi (n := 2) rfl h
set_option maxRecDepth 30000 in
theorem e_220_358 {ls : ab_L} {st : List Value} {w : ab_W} {x : Int32} : ab_Run ab_mt 220 358 ls (.int x :: st) w = ab_Run ab_mt 220 359 ls (.long x.toInt64 :: st) w := E_i2l rfl
set_option maxRecDepth 30000 in
theorem e_220_359 {ls : ab_L} {st : List Value} {w : ab_W} {x y : Int64} : ab_Run ab_mt 220 359 ls (.long y :: .long x :: st) w = ab_Run ab_mt 220 360 ls (.int (lg_cmp x y) :: st) w := E_lcmp rfl
set_option maxRecDepth 30000 in
theorem e_220_360 {ls : ab_L} {st : List Value} {w : ab_W} {x : Int32} : ab_Run ab_mt 220 360 ls (.int x :: st) w = if x = 0 then ab_Run ab_mt 220 365 ls st w else ab_Run ab_mt 220 363 ls st w := E_if_eq rfl
set_option maxRecDepth 30000 in
theorem e_220_363 {ls : ab_L} {st : List Value} {w : ab_W} : ab_Run ab_mt 220 363 ls st w = ab_Run ab_mt 220 364 ls (.int (nI 0) :: st) w := E_push (n := 1) rfl
set_option maxRecDepth 30000 in
theorem e_220_364 {ls : ab_L} {w : ab_W} {x : Int32} (h : ab_fitr 2 (.int x) = true) : ab_Run ab_mt 220 364 ls [.int x] w = some (.inl (some (.int x)), w) := E_retz rfl h
set_option maxRecDepth 30000 in
theorem e_220_365 {ls : ab_L} {st : List Value} {w : ab_W} : ab_Run ab_mt 220 365 ls st w = ab_Run ab_mt 220 2053 ls st w := E_goto rfl
set_option maxRecDepth 30000 in
theorem e_220_368 {ls : ab_L} {st : List Value} {w : ab_W} (h : ab_isR (ls 1) = true) : ab_Run ab_mt 220 368 ls st w = ab_Run ab_mt 220 369 ls (ab_gv (ls 1) :: st) w := E_loadr (n := 1) rfl h
set_option maxRecDepth 30000 in
theorem e_220_369 {ls : ab_L} {st : List Value} {w : ab_W} (h : ab_isR (ls 0) = true) : ab_Run ab_mt 220 369 ls st w = ab_Run ab_mt 220 370 ls (ab_gv (ls 0) :: st) w := E_loadr (n := 1) rfl h
set_option maxRecDepth 30000 in
theorem e_220_370 {ls : ab_L} {st : List Value} {w : ab_W} (h : ab_isI (ls 4) = true) : ab_Run ab_mt 220 370 ls st w = ab_Run ab_mt 220 372 ls (ab_gv (ls 4) :: st) w := E_loadi (n := 2) rfl h
set_option maxRecDepth 30000 in
theorem e_220_372 {ls : ab_L} {st : List Value} {w : ab_W} : ab_Run ab_mt 220 372 ls st w = ab_Run ab_mt 220 373 ls (.int (nI 1) :: st) w := E_push (n := 1) rfl
set_option maxRecDepth 30000 in
theorem e_220_373 {ls : ab_L} {st : List Value} {w : ab_W} {x y : Int32} : ab_Run ab_mt 220 373 ls (.int y :: .int x :: st) w = ab_Run ab_mt 220 374 ls (.int (x + y) :: st) w := E_ib (f := fun x y => x + y) rfl
set_option maxRecDepth 30000 in
theorem e_220_374 {ls : ab_L} {st : List Value} {w : ab_W} {a : Nat} {i : Int32} (h : ab_inI i (w.2 a) = true) : ab_Run ab_mt 220 374 ls (.int i :: .ref a :: st) w = ab_Run ab_mt 220 375 ls (.int (ab_aI i.toNatClampNeg (w.2 a)) :: st) w := E_iald rfl h
set_option maxRecDepth 30000 in
theorem e_220_375 {ls : ab_L} {st : List Value} {w : ab_W} (h : ab_isR (ls 3) = true) : ab_Run ab_mt 220 375 ls st w = ab_Run ab_mt 220 376 ls (ab_gv (ls 3) :: st) w := E_loadr (n := 1) rfl h
set_option maxRecDepth 30000 in
theorem e_220_376 {ls : ab_L} {st : List Value} {w : ab_W} {v0 v1 v2 : Value} (h1 : ab_recv ab_mt 196 [v0, v1, v2] w.2 = true) (h8 : ab_w8 st = true) : ab_Run ab_mt 220 376 ls (v2 :: v1 :: v0 :: st) w = ab_aft 196 220 376 ls st (ab_Cl 196 [v0, v1, v2] w) := E_call3 rfl h1 h8
set_option maxRecDepth 30000 in
theorem e_220_379 {ls : ab_L} {st : List Value} {w : ab_W} {x : Int32} : ab_Run ab_mt 220 379 ls (.int x :: st) w = ab_Run ab_mt 220 381 (ab_l1 ls 5 (.int x)) st w := E_stori (n := 2) rfl
set_option maxRecDepth 30000 in
theorem e_220_381 {ls : ab_L} {st : List Value} {w : ab_W} (h : ab_isR (ls 2) = true) : ab_Run ab_mt 220 381 ls st w = ab_Run ab_mt 220 382 ls (ab_gv (ls 2) :: st) w := E_loadr (n := 1) rfl h
set_option maxRecDepth 30000 in
theorem e_220_382 {ls : ab_L} {st : List Value} {w : ab_W} (h : ab_isR (ls 0) = true) : ab_Run ab_mt 220 382 ls st w = ab_Run ab_mt 220 383 ls (ab_gv (ls 0) :: st) w := E_loadr (n := 1) rfl h
set_option maxRecDepth 30000 in
theorem e_220_383 {ls : ab_L} {st : List Value} {w : ab_W} (h : ab_isI (ls 4) = true) : ab_Run ab_mt 220 383 ls st w = ab_Run ab_mt 220 385 ls (ab_gv (ls 4) :: st) w := E_loadi (n := 2) rfl h
set_option maxRecDepth 30000 in
theorem e_220_385 {ls : ab_L} {st : List Value} {w : ab_W} : ab_Run ab_mt 220 385 ls st w = ab_Run ab_mt 220 386 ls (.int (nI 1) :: st) w := E_push (n := 1) rfl
set_option maxRecDepth 30000 in
theorem e_220_386 {ls : ab_L} {st : List Value} {w : ab_W} {x y : Int32} : ab_Run ab_mt 220 386 ls (.int y :: .int x :: st) w = ab_Run ab_mt 220 387 ls (.int (x + y) :: st) w := E_ib (f := fun x y => x + y) rfl
set_option maxRecDepth 30000 in
theorem e_220_387 {ls : ab_L} {st : List Value} {w : ab_W} {a : Nat} {i : Int32} (h : ab_inI i (w.2 a) = true) : ab_Run ab_mt 220 387 ls (.int i :: .ref a :: st) w = ab_Run ab_mt 220 388 ls (.int (ab_aI i.toNatClampNeg (w.2 a)) :: st) w := E_iald rfl h
set_option maxRecDepth 30000 in
theorem e_220_388 {ls : ab_L} {st : List Value} {w : ab_W} {v0 v1 : Value} (h1 : ab_recv ab_mt 132 [v0, v1] w.2 = true) (h8 : ab_w8 st = true) : ab_Run ab_mt 220 388 ls (v1 :: v0 :: st) w = ab_aft 132 220 388 ls st (ab_Cl 132 [v0, v1] w) := E_call2 rfl h1 h8
set_option maxRecDepth 30000 in
theorem e_220_391 {ls : ab_L} {st : List Value} {w : ab_W} {x : Int32} : ab_Run ab_mt 220 391 ls (.int x :: st) w = ab_Run ab_mt 220 393 (ab_l1 ls 6 (.int x)) st w := E_stori (n := 2) rfl
set_option maxRecDepth 30000 in
theorem e_220_393 {ls : ab_L} {st : List Value} {w : ab_W} (h : ab_isR (ls 2) = true) : ab_Run ab_mt 220 393 ls st w = ab_Run ab_mt 220 394 ls (ab_gv (ls 2) :: st) w := E_loadr (n := 1) rfl h
set_option maxRecDepth 30000 in
theorem e_220_394 {ls : ab_L} {st : List Value} {w : ab_W} {v0 : Value} (h1 : ab_recv ab_mt 106 [v0] w.2 = true) (h8 : ab_w8 st = true) : ab_Run ab_mt 220 394 ls (v0 :: st) w = ab_aft 106 220 394 ls st (ab_Cl 106 [v0] w) := E_call1 rfl h1 h8
set_option maxRecDepth 30000 in
theorem e_220_397 {ls : ab_L} {st : List Value} {w : ab_W} (h : ab_isI (ls 5) = true) : ab_Run ab_mt 220 397 ls st w = ab_Run ab_mt 220 399 ls (ab_gv (ls 5) :: st) w := E_loadi (n := 2) rfl h
set_option maxRecDepth 30000 in
theorem e_220_399 {ls : ab_L} {st : List Value} {w : ab_W} {x y : Int32} : ab_Run ab_mt 220 399 ls (.int y :: .int x :: st) w = if x = y then ab_Run ab_mt 220 404 ls st w else ab_Run ab_mt 220 402 ls st w := E_ic_eq rfl
set_option maxRecDepth 30000 in
theorem e_220_402 {ls : ab_L} {st : List Value} {w : ab_W} : ab_Run ab_mt 220 402 ls st w = ab_Run ab_mt 220 403 ls (.int (nI 0) :: st) w := E_push (n := 1) rfl
set_option maxRecDepth 30000 in
theorem e_220_403 {ls : ab_L} {w : ab_W} {x : Int32} (h : ab_fitr 2 (.int x) = true) : ab_Run ab_mt 220 403 ls [.int x] w = some (.inl (some (.int x)), w) := E_retz rfl h
set_option maxRecDepth 30000 in
theorem e_220_404 {ls : ab_L} {st : List Value} {w : ab_W} (h : ab_isI (ls 5) = true) : ab_Run ab_mt 220 404 ls st w = ab_Run ab_mt 220 406 ls (ab_gv (ls 5) :: st) w := E_loadi (n := 2) rfl h
set_option maxRecDepth 30000 in
theorem e_220_406 {ls : ab_L} {st : List Value} {w : ab_W} {x : Int32} : ab_Run ab_mt 220 406 ls (.int x :: st) w = if x = 0 then ab_Run ab_mt 220 409 ls st w else ab_Run ab_mt 220 421 ls st w := E_if_ne rfl
set_option maxRecDepth 30000 in
theorem e_220_409 {ls : ab_L} {st : List Value} {w : ab_W} (h : ab_isR (ls 3) = true) : ab_Run ab_mt 220 409 ls st w = ab_Run ab_mt 220 410 ls (ab_gv (ls 3) :: st) w := E_loadr (n := 1) rfl h
set_option maxRecDepth 30000 in
theorem e_220_410 {ls : ab_L} {st : List Value} {w : ab_W} : ab_Run ab_mt 220 410 ls st w = ab_Run ab_mt 220 411 ls (.int (nI 0) :: st) w := E_push (n := 1) rfl
set_option maxRecDepth 30000 in
theorem e_220_411 {ls : ab_L} {st : List Value} {w : ab_W} {a : Nat} {i : Int32} (h : ab_inL i (w.2 a) = true) : ab_Run ab_mt 220 411 ls (.int i :: .ref a :: st) w = ab_Run ab_mt 220 412 ls (.long (ab_aL i.toNatClampNeg (w.2 a)) :: st) w := E_lald rfl h
set_option maxRecDepth 30000 in
theorem e_220_412 {ls : ab_L} {st : List Value} {w : ab_W} (h : ab_isI (ls 6) = true) : ab_Run ab_mt 220 412 ls st w = ab_Run ab_mt 220 414 ls (ab_gv (ls 6) :: st) w := E_loadi (n := 2) rfl h
set_option maxRecDepth 30000 in
theorem e_220_414 {ls : ab_L} {st : List Value} {w : ab_W} {x : Int32} : ab_Run ab_mt 220 414 ls (.int x :: st) w = ab_Run ab_mt 220 415 ls (.long x.toInt64 :: st) w := E_i2l rfl
set_option maxRecDepth 30000 in
theorem e_220_415 {ls : ab_L} {st : List Value} {w : ab_W} {x y : Int64} : ab_Run ab_mt 220 415 ls (.long y :: .long x :: st) w = ab_Run ab_mt 220 416 ls (.int (lg_cmp x y) :: st) w := E_lcmp rfl
set_option maxRecDepth 30000 in
theorem e_220_416 {ls : ab_L} {st : List Value} {w : ab_W} {x : Int32} : ab_Run ab_mt 220 416 ls (.int x :: st) w = if x = 0 then ab_Run ab_mt 220 421 ls st w else ab_Run ab_mt 220 419 ls st w := E_if_eq rfl
set_option maxRecDepth 30000 in
theorem e_220_419 {ls : ab_L} {st : List Value} {w : ab_W} : ab_Run ab_mt 220 419 ls st w = ab_Run ab_mt 220 420 ls (.int (nI 0) :: st) w := E_push (n := 1) rfl
set_option maxRecDepth 30000 in
theorem e_220_420 {ls : ab_L} {w : ab_W} {x : Int32} (h : ab_fitr 2 (.int x) = true) : ab_Run ab_mt 220 420 ls [.int x] w = some (.inl (some (.int x)), w) := E_retz rfl h
set_option maxRecDepth 30000 in
theorem e_220_421 {ls : ab_L} {st : List Value} {w : ab_W} : ab_Run ab_mt 220 421 ls st w = ab_Run ab_mt 220 2053 ls st w := E_goto rfl
set_option maxRecDepth 30000 in
theorem e_220_424 {ls : ab_L} {st : List Value} {w : ab_W} (h : ab_isR (ls 1) = true) : ab_Run ab_mt 220 424 ls st w = ab_Run ab_mt 220 425 ls (ab_gv (ls 1) :: st) w := E_loadr (n := 1) rfl h
set_option maxRecDepth 30000 in
theorem e_220_425 {ls : ab_L} {st : List Value} {w : ab_W} (h : ab_isR (ls 0) = true) : ab_Run ab_mt 220 425 ls st w = ab_Run ab_mt 220 426 ls (ab_gv (ls 0) :: st) w := E_loadr (n := 1) rfl h
set_option maxRecDepth 30000 in
theorem e_220_426 {ls : ab_L} {st : List Value} {w : ab_W} (h : ab_isI (ls 4) = true) : ab_Run ab_mt 220 426 ls st w = ab_Run ab_mt 220 428 ls (ab_gv (ls 4) :: st) w := E_loadi (n := 2) rfl h
set_option maxRecDepth 30000 in
theorem e_220_428 {ls : ab_L} {st : List Value} {w : ab_W} : ab_Run ab_mt 220 428 ls st w = ab_Run ab_mt 220 429 ls (.int (nI 1) :: st) w := E_push (n := 1) rfl
set_option maxRecDepth 30000 in
theorem e_220_429 {ls : ab_L} {st : List Value} {w : ab_W} {x y : Int32} : ab_Run ab_mt 220 429 ls (.int y :: .int x :: st) w = ab_Run ab_mt 220 430 ls (.int (x + y) :: st) w := E_ib (f := fun x y => x + y) rfl
set_option maxRecDepth 30000 in
theorem e_220_430 {ls : ab_L} {st : List Value} {w : ab_W} {a : Nat} {i : Int32} (h : ab_inI i (w.2 a) = true) : ab_Run ab_mt 220 430 ls (.int i :: .ref a :: st) w = ab_Run ab_mt 220 431 ls (.int (ab_aI i.toNatClampNeg (w.2 a)) :: st) w := E_iald rfl h
set_option maxRecDepth 30000 in
theorem e_220_431 {ls : ab_L} {st : List Value} {w : ab_W} (h : ab_isR (ls 0) = true) : ab_Run ab_mt 220 431 ls st w = ab_Run ab_mt 220 432 ls (ab_gv (ls 0) :: st) w := E_loadr (n := 1) rfl h
set_option maxRecDepth 30000 in
theorem e_220_432 {ls : ab_L} {st : List Value} {w : ab_W} (h : ab_isI (ls 4) = true) : ab_Run ab_mt 220 432 ls st w = ab_Run ab_mt 220 434 ls (ab_gv (ls 4) :: st) w := E_loadi (n := 2) rfl h
set_option maxRecDepth 30000 in
theorem e_220_434 {ls : ab_L} {st : List Value} {w : ab_W} : ab_Run ab_mt 220 434 ls st w = ab_Run ab_mt 220 435 ls (.int (nI 2) :: st) w := E_push (n := 1) rfl
set_option maxRecDepth 30000 in
theorem e_220_435 {ls : ab_L} {st : List Value} {w : ab_W} {x y : Int32} : ab_Run ab_mt 220 435 ls (.int y :: .int x :: st) w = ab_Run ab_mt 220 436 ls (.int (x + y) :: st) w := E_ib (f := fun x y => x + y) rfl
set_option maxRecDepth 30000 in
theorem e_220_436 {ls : ab_L} {st : List Value} {w : ab_W} {a : Nat} {i : Int32} (h : ab_inI i (w.2 a) = true) : ab_Run ab_mt 220 436 ls (.int i :: .ref a :: st) w = ab_Run ab_mt 220 437 ls (.int (ab_aI i.toNatClampNeg (w.2 a)) :: st) w := E_iald rfl h
set_option maxRecDepth 30000 in
theorem e_220_437 {ls : ab_L} {st : List Value} {w : ab_W} (h : ab_isR (ls 0) = true) : ab_Run ab_mt 220 437 ls st w = ab_Run ab_mt 220 438 ls (ab_gv (ls 0) :: st) w := E_loadr (n := 1) rfl h
set_option maxRecDepth 30000 in
theorem e_220_438 {ls : ab_L} {st : List Value} {w : ab_W} (h : ab_isI (ls 4) = true) : ab_Run ab_mt 220 438 ls st w = ab_Run ab_mt 220 440 ls (ab_gv (ls 4) :: st) w := E_loadi (n := 2) rfl h
set_option maxRecDepth 30000 in
theorem e_220_440 {ls : ab_L} {st : List Value} {w : ab_W} : ab_Run ab_mt 220 440 ls st w = ab_Run ab_mt 220 441 ls (.int (nI 3) :: st) w := E_push (n := 1) rfl
set_option maxRecDepth 30000 in
theorem e_220_441 {ls : ab_L} {st : List Value} {w : ab_W} {x y : Int32} : ab_Run ab_mt 220 441 ls (.int y :: .int x :: st) w = ab_Run ab_mt 220 442 ls (.int (x + y) :: st) w := E_ib (f := fun x y => x + y) rfl
set_option maxRecDepth 30000 in
theorem e_220_442 {ls : ab_L} {st : List Value} {w : ab_W} {a : Nat} {i : Int32} (h : ab_inI i (w.2 a) = true) : ab_Run ab_mt 220 442 ls (.int i :: .ref a :: st) w = ab_Run ab_mt 220 443 ls (.int (ab_aI i.toNatClampNeg (w.2 a)) :: st) w := E_iald rfl h
set_option maxRecDepth 30000 in
theorem e_220_443 {ls : ab_L} {st : List Value} {w : ab_W} {x : Int32} : ab_Run ab_mt 220 443 ls (.int x :: st) w = if x = 0 then ab_Run ab_mt 220 450 ls st w else ab_Run ab_mt 220 446 ls st w := E_if_eq rfl
set_option maxRecDepth 30000 in
theorem e_220_446 {ls : ab_L} {st : List Value} {w : ab_W} : ab_Run ab_mt 220 446 ls st w = ab_Run ab_mt 220 447 ls (.int (nI 1) :: st) w := E_push (n := 1) rfl
set_option maxRecDepth 30000 in
theorem e_220_447 {ls : ab_L} {st : List Value} {w : ab_W} : ab_Run ab_mt 220 447 ls st w = ab_Run ab_mt 220 451 ls st w := E_goto rfl
set_option maxRecDepth 30000 in
theorem e_220_450 {ls : ab_L} {st : List Value} {w : ab_W} : ab_Run ab_mt 220 450 ls st w = ab_Run ab_mt 220 451 ls (.int (nI 0) :: st) w := E_push (n := 1) rfl
set_option maxRecDepth 30000 in
theorem e_220_451 {ls : ab_L} {st : List Value} {w : ab_W} (h : ab_isR (ls 3) = true) : ab_Run ab_mt 220 451 ls st w = ab_Run ab_mt 220 452 ls (ab_gv (ls 3) :: st) w := E_loadr (n := 1) rfl h
set_option maxRecDepth 30000 in
theorem e_220_452 {ls : ab_L} {st : List Value} {w : ab_W} {v0 v1 v2 v3 v4 : Value} (h1 : ab_recv ab_mt 197 [v0, v1, v2, v3, v4] w.2 = true) (h8 : ab_w8 st = true) : ab_Run ab_mt 220 452 ls (v4 :: v3 :: v2 :: v1 :: v0 :: st) w = ab_aft 197 220 452 ls st (ab_Cl 197 [v0, v1, v2, v3, v4] w) := E_call5 rfl h1 h8
set_option maxRecDepth 30000 in
theorem e_220_455 {ls : ab_L} {st : List Value} {w : ab_W} {x : Int32} : ab_Run ab_mt 220 455 ls (.int x :: st) w = ab_Run ab_mt 220 457 (ab_l1 ls 5 (.int x)) st w := E_stori (n := 2) rfl
set_option maxRecDepth 30000 in
theorem e_220_457 {ls : ab_L} {st : List Value} {w : ab_W} (h : ab_isR (ls 2) = true) : ab_Run ab_mt 220 457 ls st w = ab_Run ab_mt 220 458 ls (ab_gv (ls 2) :: st) w := E_loadr (n := 1) rfl h
set_option maxRecDepth 30000 in
theorem e_220_458 {ls : ab_L} {st : List Value} {w : ab_W} (h : ab_isR (ls 0) = true) : ab_Run ab_mt 220 458 ls st w = ab_Run ab_mt 220 459 ls (ab_gv (ls 0) :: st) w := E_loadr (n := 1) rfl h
set_option maxRecDepth 30000 in
theorem e_220_459 {ls : ab_L} {st : List Value} {w : ab_W} (h : ab_isI (ls 4) = true) : ab_Run ab_mt 220 459 ls st w = ab_Run ab_mt 220 461 ls (ab_gv (ls 4) :: st) w := E_loadi (n := 2) rfl h
set_option maxRecDepth 30000 in
theorem e_220_461 {ls : ab_L} {st : List Value} {w : ab_W} : ab_Run ab_mt 220 461 ls st w = ab_Run ab_mt 220 462 ls (.int (nI 1) :: st) w := E_push (n := 1) rfl
set_option maxRecDepth 30000 in
theorem e_220_462 {ls : ab_L} {st : List Value} {w : ab_W} {x y : Int32} : ab_Run ab_mt 220 462 ls (.int y :: .int x :: st) w = ab_Run ab_mt 220 463 ls (.int (x + y) :: st) w := E_ib (f := fun x y => x + y) rfl
set_option maxRecDepth 30000 in
theorem e_220_463 {ls : ab_L} {st : List Value} {w : ab_W} {a : Nat} {i : Int32} (h : ab_inI i (w.2 a) = true) : ab_Run ab_mt 220 463 ls (.int i :: .ref a :: st) w = ab_Run ab_mt 220 464 ls (.int (ab_aI i.toNatClampNeg (w.2 a)) :: st) w := E_iald rfl h
set_option maxRecDepth 30000 in
theorem e_220_464 {ls : ab_L} {st : List Value} {w : ab_W} (h : ab_isR (ls 0) = true) : ab_Run ab_mt 220 464 ls st w = ab_Run ab_mt 220 465 ls (ab_gv (ls 0) :: st) w := E_loadr (n := 1) rfl h
set_option maxRecDepth 30000 in
theorem e_220_465 {ls : ab_L} {st : List Value} {w : ab_W} (h : ab_isI (ls 4) = true) : ab_Run ab_mt 220 465 ls st w = ab_Run ab_mt 220 467 ls (ab_gv (ls 4) :: st) w := E_loadi (n := 2) rfl h
set_option maxRecDepth 30000 in
theorem e_220_467 {ls : ab_L} {st : List Value} {w : ab_W} : ab_Run ab_mt 220 467 ls st w = ab_Run ab_mt 220 468 ls (.int (nI 2) :: st) w := E_push (n := 1) rfl
set_option maxRecDepth 30000 in
theorem e_220_468 {ls : ab_L} {st : List Value} {w : ab_W} {x y : Int32} : ab_Run ab_mt 220 468 ls (.int y :: .int x :: st) w = ab_Run ab_mt 220 469 ls (.int (x + y) :: st) w := E_ib (f := fun x y => x + y) rfl
set_option maxRecDepth 30000 in
theorem e_220_469 {ls : ab_L} {st : List Value} {w : ab_W} {a : Nat} {i : Int32} (h : ab_inI i (w.2 a) = true) : ab_Run ab_mt 220 469 ls (.int i :: .ref a :: st) w = ab_Run ab_mt 220 470 ls (.int (ab_aI i.toNatClampNeg (w.2 a)) :: st) w := E_iald rfl h
set_option maxRecDepth 30000 in
theorem e_220_470 {ls : ab_L} {st : List Value} {w : ab_W} (h : ab_isR (ls 0) = true) : ab_Run ab_mt 220 470 ls st w = ab_Run ab_mt 220 471 ls (ab_gv (ls 0) :: st) w := E_loadr (n := 1) rfl h
set_option maxRecDepth 30000 in
theorem e_220_471 {ls : ab_L} {st : List Value} {w : ab_W} (h : ab_isI (ls 4) = true) : ab_Run ab_mt 220 471 ls st w = ab_Run ab_mt 220 473 ls (ab_gv (ls 4) :: st) w := E_loadi (n := 2) rfl h
set_option maxRecDepth 30000 in
theorem e_220_473 {ls : ab_L} {st : List Value} {w : ab_W} : ab_Run ab_mt 220 473 ls st w = ab_Run ab_mt 220 474 ls (.int (nI 3) :: st) w := E_push (n := 1) rfl
set_option maxRecDepth 30000 in
theorem e_220_474 {ls : ab_L} {st : List Value} {w : ab_W} {x y : Int32} : ab_Run ab_mt 220 474 ls (.int y :: .int x :: st) w = ab_Run ab_mt 220 475 ls (.int (x + y) :: st) w := E_ib (f := fun x y => x + y) rfl
set_option maxRecDepth 30000 in
theorem e_220_475 {ls : ab_L} {st : List Value} {w : ab_W} {a : Nat} {i : Int32} (h : ab_inI i (w.2 a) = true) : ab_Run ab_mt 220 475 ls (.int i :: .ref a :: st) w = ab_Run ab_mt 220 476 ls (.int (ab_aI i.toNatClampNeg (w.2 a)) :: st) w := E_iald rfl h
set_option maxRecDepth 30000 in
theorem e_220_476 {ls : ab_L} {st : List Value} {w : ab_W} {x : Int32} : ab_Run ab_mt 220 476 ls (.int x :: st) w = if x = 0 then ab_Run ab_mt 220 483 ls st w else ab_Run ab_mt 220 479 ls st w := E_if_eq rfl
set_option maxRecDepth 30000 in
theorem e_220_479 {ls : ab_L} {st : List Value} {w : ab_W} : ab_Run ab_mt 220 479 ls st w = ab_Run ab_mt 220 480 ls (.int (nI 1) :: st) w := E_push (n := 1) rfl
set_option maxRecDepth 30000 in
theorem e_220_480 {ls : ab_L} {st : List Value} {w : ab_W} : ab_Run ab_mt 220 480 ls st w = ab_Run ab_mt 220 484 ls st w := E_goto rfl
set_option maxRecDepth 30000 in
theorem e_220_483 {ls : ab_L} {st : List Value} {w : ab_W} : ab_Run ab_mt 220 483 ls st w = ab_Run ab_mt 220 484 ls (.int (nI 0) :: st) w := E_push (n := 1) rfl
set_option maxRecDepth 30000 in
theorem e_220_484 {ls : ab_L} {st : List Value} {w : ab_W} {v0 v1 v2 v3 : Value} (h1 : ab_recv ab_mt 136 [v0, v1, v2, v3] w.2 = true) (h8 : ab_w8 st = true) : ab_Run ab_mt 220 484 ls (v3 :: v2 :: v1 :: v0 :: st) w = ab_aft 136 220 484 ls st (ab_Cl 136 [v0, v1, v2, v3] w) := E_call4 rfl h1 h8
set_option maxRecDepth 30000 in
theorem e_220_487 {ls : ab_L} {st : List Value} {w : ab_W} {x : Int32} : ab_Run ab_mt 220 487 ls (.int x :: st) w = ab_Run ab_mt 220 489 (ab_l1 ls 6 (.int x)) st w := E_stori (n := 2) rfl
set_option maxRecDepth 30000 in
theorem e_220_489 {ls : ab_L} {st : List Value} {w : ab_W} (h : ab_isR (ls 2) = true) : ab_Run ab_mt 220 489 ls st w = ab_Run ab_mt 220 490 ls (ab_gv (ls 2) :: st) w := E_loadr (n := 1) rfl h
set_option maxRecDepth 30000 in
theorem e_220_490 {ls : ab_L} {st : List Value} {w : ab_W} {v0 : Value} (h1 : ab_recv ab_mt 106 [v0] w.2 = true) (h8 : ab_w8 st = true) : ab_Run ab_mt 220 490 ls (v0 :: st) w = ab_aft 106 220 490 ls st (ab_Cl 106 [v0] w) := E_call1 rfl h1 h8
set_option maxRecDepth 30000 in
theorem e_220_493 {ls : ab_L} {st : List Value} {w : ab_W} (h : ab_isI (ls 5) = true) : ab_Run ab_mt 220 493 ls st w = ab_Run ab_mt 220 495 ls (ab_gv (ls 5) :: st) w := E_loadi (n := 2) rfl h
set_option maxRecDepth 30000 in
theorem e_220_495 {ls : ab_L} {st : List Value} {w : ab_W} {x y : Int32} : ab_Run ab_mt 220 495 ls (.int y :: .int x :: st) w = if x = y then ab_Run ab_mt 220 500 ls st w else ab_Run ab_mt 220 498 ls st w := E_ic_eq rfl
set_option maxRecDepth 30000 in
theorem e_220_498 {ls : ab_L} {st : List Value} {w : ab_W} : ab_Run ab_mt 220 498 ls st w = ab_Run ab_mt 220 499 ls (.int (nI 0) :: st) w := E_push (n := 1) rfl
set_option maxRecDepth 30000 in
theorem e_220_499 {ls : ab_L} {w : ab_W} {x : Int32} (h : ab_fitr 2 (.int x) = true) : ab_Run ab_mt 220 499 ls [.int x] w = some (.inl (some (.int x)), w) := E_retz rfl h
set_option maxRecDepth 30000 in
theorem e_220_500 {ls : ab_L} {st : List Value} {w : ab_W} (h : ab_isI (ls 5) = true) : ab_Run ab_mt 220 500 ls st w = ab_Run ab_mt 220 502 ls (ab_gv (ls 5) :: st) w := E_loadi (n := 2) rfl h
set_option maxRecDepth 30000 in
theorem e_220_502 {ls : ab_L} {st : List Value} {w : ab_W} {x : Int32} : ab_Run ab_mt 220 502 ls (.int x :: st) w = if x = 0 then ab_Run ab_mt 220 505 ls st w else ab_Run ab_mt 220 517 ls st w := E_if_ne rfl
set_option maxRecDepth 30000 in
theorem e_220_505 {ls : ab_L} {st : List Value} {w : ab_W} (h : ab_isR (ls 3) = true) : ab_Run ab_mt 220 505 ls st w = ab_Run ab_mt 220 506 ls (ab_gv (ls 3) :: st) w := E_loadr (n := 1) rfl h
set_option maxRecDepth 30000 in
theorem e_220_506 {ls : ab_L} {st : List Value} {w : ab_W} : ab_Run ab_mt 220 506 ls st w = ab_Run ab_mt 220 507 ls (.int (nI 0) :: st) w := E_push (n := 1) rfl
set_option maxRecDepth 30000 in
theorem e_220_507 {ls : ab_L} {st : List Value} {w : ab_W} {a : Nat} {i : Int32} (h : ab_inL i (w.2 a) = true) : ab_Run ab_mt 220 507 ls (.int i :: .ref a :: st) w = ab_Run ab_mt 220 508 ls (.long (ab_aL i.toNatClampNeg (w.2 a)) :: st) w := E_lald rfl h
set_option maxRecDepth 30000 in
theorem e_220_508 {ls : ab_L} {st : List Value} {w : ab_W} (h : ab_isI (ls 6) = true) : ab_Run ab_mt 220 508 ls st w = ab_Run ab_mt 220 510 ls (ab_gv (ls 6) :: st) w := E_loadi (n := 2) rfl h
set_option maxRecDepth 30000 in
theorem e_220_510 {ls : ab_L} {st : List Value} {w : ab_W} {x : Int32} : ab_Run ab_mt 220 510 ls (.int x :: st) w = ab_Run ab_mt 220 511 ls (.long x.toInt64 :: st) w := E_i2l rfl
set_option maxRecDepth 30000 in
theorem e_220_511 {ls : ab_L} {st : List Value} {w : ab_W} {x y : Int64} : ab_Run ab_mt 220 511 ls (.long y :: .long x :: st) w = ab_Run ab_mt 220 512 ls (.int (lg_cmp x y) :: st) w := E_lcmp rfl
set_option maxRecDepth 30000 in
theorem e_220_512 {ls : ab_L} {st : List Value} {w : ab_W} {x : Int32} : ab_Run ab_mt 220 512 ls (.int x :: st) w = if x = 0 then ab_Run ab_mt 220 517 ls st w else ab_Run ab_mt 220 515 ls st w := E_if_eq rfl
set_option maxRecDepth 30000 in
theorem e_220_515 {ls : ab_L} {st : List Value} {w : ab_W} : ab_Run ab_mt 220 515 ls st w = ab_Run ab_mt 220 516 ls (.int (nI 0) :: st) w := E_push (n := 1) rfl
set_option maxRecDepth 30000 in
theorem e_220_516 {ls : ab_L} {w : ab_W} {x : Int32} (h : ab_fitr 2 (.int x) = true) : ab_Run ab_mt 220 516 ls [.int x] w = some (.inl (some (.int x)), w) := E_retz rfl h
set_option maxRecDepth 30000 in
theorem e_220_517 {ls : ab_L} {st : List Value} {w : ab_W} : ab_Run ab_mt 220 517 ls st w = ab_Run ab_mt 220 2053 ls st w := E_goto rfl
set_option maxRecDepth 30000 in
theorem e_220_520 {ls : ab_L} {st : List Value} {w : ab_W} (h : ab_isR (ls 1) = true) : ab_Run ab_mt 220 520 ls st w = ab_Run ab_mt 220 521 ls (ab_gv (ls 1) :: st) w := E_loadr (n := 1) rfl h
set_option maxRecDepth 30000 in
theorem e_220_521 {ls : ab_L} {st : List Value} {w : ab_W} (h : ab_isR (ls 0) = true) : ab_Run ab_mt 220 521 ls st w = ab_Run ab_mt 220 522 ls (ab_gv (ls 0) :: st) w := E_loadr (n := 1) rfl h
set_option maxRecDepth 30000 in
theorem e_220_522 {ls : ab_L} {st : List Value} {w : ab_W} (h : ab_isI (ls 4) = true) : ab_Run ab_mt 220 522 ls st w = ab_Run ab_mt 220 524 ls (ab_gv (ls 4) :: st) w := E_loadi (n := 2) rfl h
set_option maxRecDepth 30000 in
theorem e_220_524 {ls : ab_L} {st : List Value} {w : ab_W} : ab_Run ab_mt 220 524 ls st w = ab_Run ab_mt 220 525 ls (.int (nI 1) :: st) w := E_push (n := 1) rfl
set_option maxRecDepth 30000 in
theorem e_220_525 {ls : ab_L} {st : List Value} {w : ab_W} {x y : Int32} : ab_Run ab_mt 220 525 ls (.int y :: .int x :: st) w = ab_Run ab_mt 220 526 ls (.int (x + y) :: st) w := E_ib (f := fun x y => x + y) rfl
set_option maxRecDepth 30000 in
theorem e_220_526 {ls : ab_L} {st : List Value} {w : ab_W} {a : Nat} {i : Int32} (h : ab_inI i (w.2 a) = true) : ab_Run ab_mt 220 526 ls (.int i :: .ref a :: st) w = ab_Run ab_mt 220 527 ls (.int (ab_aI i.toNatClampNeg (w.2 a)) :: st) w := E_iald rfl h
set_option maxRecDepth 30000 in
theorem e_220_527 {ls : ab_L} {st : List Value} {w : ab_W} (h : ab_isR (ls 3) = true) : ab_Run ab_mt 220 527 ls st w = ab_Run ab_mt 220 528 ls (ab_gv (ls 3) :: st) w := E_loadr (n := 1) rfl h
set_option maxRecDepth 30000 in
theorem e_220_528 {ls : ab_L} {st : List Value} {w : ab_W} {v0 v1 v2 : Value} (h1 : ab_recv ab_mt 198 [v0, v1, v2] w.2 = true) (h8 : ab_w8 st = true) : ab_Run ab_mt 220 528 ls (v2 :: v1 :: v0 :: st) w = ab_aft 198 220 528 ls st (ab_Cl 198 [v0, v1, v2] w) := E_call3 rfl h1 h8
set_option maxRecDepth 30000 in
theorem e_220_531 {ls : ab_L} {st : List Value} {w : ab_W} {x : Int32} : ab_Run ab_mt 220 531 ls (.int x :: st) w = ab_Run ab_mt 220 533 (ab_l1 ls 5 (.int x)) st w := E_stori (n := 2) rfl
set_option maxRecDepth 30000 in
theorem e_220_533 {ls : ab_L} {st : List Value} {w : ab_W} (h : ab_isR (ls 2) = true) : ab_Run ab_mt 220 533 ls st w = ab_Run ab_mt 220 534 ls (ab_gv (ls 2) :: st) w := E_loadr (n := 1) rfl h
set_option maxRecDepth 30000 in
theorem e_220_534 {ls : ab_L} {st : List Value} {w : ab_W} (h : ab_isR (ls 0) = true) : ab_Run ab_mt 220 534 ls st w = ab_Run ab_mt 220 535 ls (ab_gv (ls 0) :: st) w := E_loadr (n := 1) rfl h
set_option maxRecDepth 30000 in
theorem e_220_535 {ls : ab_L} {st : List Value} {w : ab_W} (h : ab_isI (ls 4) = true) : ab_Run ab_mt 220 535 ls st w = ab_Run ab_mt 220 537 ls (ab_gv (ls 4) :: st) w := E_loadi (n := 2) rfl h
set_option maxRecDepth 30000 in
theorem e_220_537 {ls : ab_L} {st : List Value} {w : ab_W} : ab_Run ab_mt 220 537 ls st w = ab_Run ab_mt 220 538 ls (.int (nI 1) :: st) w := E_push (n := 1) rfl
set_option maxRecDepth 30000 in
theorem e_220_538 {ls : ab_L} {st : List Value} {w : ab_W} {x y : Int32} : ab_Run ab_mt 220 538 ls (.int y :: .int x :: st) w = ab_Run ab_mt 220 539 ls (.int (x + y) :: st) w := E_ib (f := fun x y => x + y) rfl
set_option maxRecDepth 30000 in
theorem e_220_539 {ls : ab_L} {st : List Value} {w : ab_W} {a : Nat} {i : Int32} (h : ab_inI i (w.2 a) = true) : ab_Run ab_mt 220 539 ls (.int i :: .ref a :: st) w = ab_Run ab_mt 220 540 ls (.int (ab_aI i.toNatClampNeg (w.2 a)) :: st) w := E_iald rfl h
set_option maxRecDepth 30000 in
theorem e_220_540 {ls : ab_L} {st : List Value} {w : ab_W} {v0 v1 : Value} (h1 : ab_recv ab_mt 137 [v0, v1] w.2 = true) (h8 : ab_w8 st = true) : ab_Run ab_mt 220 540 ls (v1 :: v0 :: st) w = ab_aft 137 220 540 ls st (ab_Cl 137 [v0, v1] w) := E_call2 rfl h1 h8
set_option maxRecDepth 30000 in
theorem e_220_543 {ls : ab_L} {st : List Value} {w : ab_W} {x : Int32} : ab_Run ab_mt 220 543 ls (.int x :: st) w = ab_Run ab_mt 220 545 (ab_l1 ls 6 (.int x)) st w := E_stori (n := 2) rfl
set_option maxRecDepth 30000 in
theorem e_220_545 {ls : ab_L} {st : List Value} {w : ab_W} (h : ab_isR (ls 2) = true) : ab_Run ab_mt 220 545 ls st w = ab_Run ab_mt 220 546 ls (ab_gv (ls 2) :: st) w := E_loadr (n := 1) rfl h
set_option maxRecDepth 30000 in
theorem e_220_546 {ls : ab_L} {st : List Value} {w : ab_W} {v0 : Value} (h1 : ab_recv ab_mt 106 [v0] w.2 = true) (h8 : ab_w8 st = true) : ab_Run ab_mt 220 546 ls (v0 :: st) w = ab_aft 106 220 546 ls st (ab_Cl 106 [v0] w) := E_call1 rfl h1 h8
set_option maxRecDepth 30000 in
theorem e_220_549 {ls : ab_L} {st : List Value} {w : ab_W} (h : ab_isI (ls 5) = true) : ab_Run ab_mt 220 549 ls st w = ab_Run ab_mt 220 551 ls (ab_gv (ls 5) :: st) w := E_loadi (n := 2) rfl h
set_option maxRecDepth 30000 in
theorem e_220_551 {ls : ab_L} {st : List Value} {w : ab_W} {x y : Int32} : ab_Run ab_mt 220 551 ls (.int y :: .int x :: st) w = if x = y then ab_Run ab_mt 220 556 ls st w else ab_Run ab_mt 220 554 ls st w := E_ic_eq rfl
set_option maxRecDepth 30000 in
theorem e_220_554 {ls : ab_L} {st : List Value} {w : ab_W} : ab_Run ab_mt 220 554 ls st w = ab_Run ab_mt 220 555 ls (.int (nI 0) :: st) w := E_push (n := 1) rfl
set_option maxRecDepth 30000 in
theorem e_220_555 {ls : ab_L} {w : ab_W} {x : Int32} (h : ab_fitr 2 (.int x) = true) : ab_Run ab_mt 220 555 ls [.int x] w = some (.inl (some (.int x)), w) := E_retz rfl h
set_option maxRecDepth 30000 in
theorem e_220_556 {ls : ab_L} {st : List Value} {w : ab_W} (h : ab_isI (ls 5) = true) : ab_Run ab_mt 220 556 ls st w = ab_Run ab_mt 220 558 ls (ab_gv (ls 5) :: st) w := E_loadi (n := 2) rfl h
set_option maxRecDepth 30000 in
theorem e_220_558 {ls : ab_L} {st : List Value} {w : ab_W} {x : Int32} : ab_Run ab_mt 220 558 ls (.int x :: st) w = if x = 0 then ab_Run ab_mt 220 561 ls st w else ab_Run ab_mt 220 573 ls st w := E_if_ne rfl
set_option maxRecDepth 30000 in
theorem e_220_561 {ls : ab_L} {st : List Value} {w : ab_W} (h : ab_isR (ls 3) = true) : ab_Run ab_mt 220 561 ls st w = ab_Run ab_mt 220 562 ls (ab_gv (ls 3) :: st) w := E_loadr (n := 1) rfl h
set_option maxRecDepth 30000 in
theorem e_220_562 {ls : ab_L} {st : List Value} {w : ab_W} : ab_Run ab_mt 220 562 ls st w = ab_Run ab_mt 220 563 ls (.int (nI 0) :: st) w := E_push (n := 1) rfl
set_option maxRecDepth 30000 in
theorem e_220_563 {ls : ab_L} {st : List Value} {w : ab_W} {a : Nat} {i : Int32} (h : ab_inL i (w.2 a) = true) : ab_Run ab_mt 220 563 ls (.int i :: .ref a :: st) w = ab_Run ab_mt 220 564 ls (.long (ab_aL i.toNatClampNeg (w.2 a)) :: st) w := E_lald rfl h
set_option maxRecDepth 30000 in
theorem e_220_564 {ls : ab_L} {st : List Value} {w : ab_W} (h : ab_isI (ls 6) = true) : ab_Run ab_mt 220 564 ls st w = ab_Run ab_mt 220 566 ls (ab_gv (ls 6) :: st) w := E_loadi (n := 2) rfl h
set_option maxRecDepth 30000 in
theorem e_220_566 {ls : ab_L} {st : List Value} {w : ab_W} {x : Int32} : ab_Run ab_mt 220 566 ls (.int x :: st) w = ab_Run ab_mt 220 567 ls (.long x.toInt64 :: st) w := E_i2l rfl
set_option maxRecDepth 30000 in
theorem e_220_567 {ls : ab_L} {st : List Value} {w : ab_W} {x y : Int64} : ab_Run ab_mt 220 567 ls (.long y :: .long x :: st) w = ab_Run ab_mt 220 568 ls (.int (lg_cmp x y) :: st) w := E_lcmp rfl
set_option maxRecDepth 30000 in
theorem e_220_568 {ls : ab_L} {st : List Value} {w : ab_W} {x : Int32} : ab_Run ab_mt 220 568 ls (.int x :: st) w = if x = 0 then ab_Run ab_mt 220 573 ls st w else ab_Run ab_mt 220 571 ls st w := E_if_eq rfl
set_option maxRecDepth 30000 in
theorem e_220_571 {ls : ab_L} {st : List Value} {w : ab_W} : ab_Run ab_mt 220 571 ls st w = ab_Run ab_mt 220 572 ls (.int (nI 0) :: st) w := E_push (n := 1) rfl
set_option maxRecDepth 30000 in
theorem e_220_572 {ls : ab_L} {w : ab_W} {x : Int32} (h : ab_fitr 2 (.int x) = true) : ab_Run ab_mt 220 572 ls [.int x] w = some (.inl (some (.int x)), w) := E_retz rfl h
set_option maxRecDepth 30000 in
theorem e_220_573 {ls : ab_L} {st : List Value} {w : ab_W} : ab_Run ab_mt 220 573 ls st w = ab_Run ab_mt 220 2053 ls st w := E_goto rfl
set_option maxRecDepth 30000 in
theorem e_220_576 {ls : ab_L} {st : List Value} {w : ab_W} (h : ab_isR (ls 1) = true) : ab_Run ab_mt 220 576 ls st w = ab_Run ab_mt 220 577 ls (ab_gv (ls 1) :: st) w := E_loadr (n := 1) rfl h
set_option maxRecDepth 30000 in
theorem e_220_577 {ls : ab_L} {st : List Value} {w : ab_W} (h : ab_isR (ls 0) = true) : ab_Run ab_mt 220 577 ls st w = ab_Run ab_mt 220 578 ls (ab_gv (ls 0) :: st) w := E_loadr (n := 1) rfl h
set_option maxRecDepth 30000 in
theorem e_220_578 {ls : ab_L} {st : List Value} {w : ab_W} (h : ab_isI (ls 4) = true) : ab_Run ab_mt 220 578 ls st w = ab_Run ab_mt 220 580 ls (ab_gv (ls 4) :: st) w := E_loadi (n := 2) rfl h
set_option maxRecDepth 30000 in
theorem e_220_580 {ls : ab_L} {st : List Value} {w : ab_W} : ab_Run ab_mt 220 580 ls st w = ab_Run ab_mt 220 581 ls (.int (nI 1) :: st) w := E_push (n := 1) rfl
set_option maxRecDepth 30000 in
theorem e_220_581 {ls : ab_L} {st : List Value} {w : ab_W} {x y : Int32} : ab_Run ab_mt 220 581 ls (.int y :: .int x :: st) w = ab_Run ab_mt 220 582 ls (.int (x + y) :: st) w := E_ib (f := fun x y => x + y) rfl
set_option maxRecDepth 30000 in
theorem e_220_582 {ls : ab_L} {st : List Value} {w : ab_W} {a : Nat} {i : Int32} (h : ab_inI i (w.2 a) = true) : ab_Run ab_mt 220 582 ls (.int i :: .ref a :: st) w = ab_Run ab_mt 220 583 ls (.int (ab_aI i.toNatClampNeg (w.2 a)) :: st) w := E_iald rfl h
set_option maxRecDepth 30000 in
theorem e_220_583 {ls : ab_L} {st : List Value} {w : ab_W} (h : ab_isR (ls 0) = true) : ab_Run ab_mt 220 583 ls st w = ab_Run ab_mt 220 584 ls (ab_gv (ls 0) :: st) w := E_loadr (n := 1) rfl h
set_option maxRecDepth 30000 in
theorem e_220_584 {ls : ab_L} {st : List Value} {w : ab_W} (h : ab_isI (ls 4) = true) : ab_Run ab_mt 220 584 ls st w = ab_Run ab_mt 220 586 ls (ab_gv (ls 4) :: st) w := E_loadi (n := 2) rfl h
set_option maxRecDepth 30000 in
theorem e_220_586 {ls : ab_L} {st : List Value} {w : ab_W} : ab_Run ab_mt 220 586 ls st w = ab_Run ab_mt 220 587 ls (.int (nI 2) :: st) w := E_push (n := 1) rfl
set_option maxRecDepth 30000 in
theorem e_220_587 {ls : ab_L} {st : List Value} {w : ab_W} {x y : Int32} : ab_Run ab_mt 220 587 ls (.int y :: .int x :: st) w = ab_Run ab_mt 220 588 ls (.int (x + y) :: st) w := E_ib (f := fun x y => x + y) rfl
set_option maxRecDepth 30000 in
theorem e_220_588 {ls : ab_L} {st : List Value} {w : ab_W} {a : Nat} {i : Int32} (h : ab_inI i (w.2 a) = true) : ab_Run ab_mt 220 588 ls (.int i :: .ref a :: st) w = ab_Run ab_mt 220 589 ls (.int (ab_aI i.toNatClampNeg (w.2 a)) :: st) w := E_iald rfl h
set_option maxRecDepth 30000 in
theorem e_220_589 {ls : ab_L} {st : List Value} {w : ab_W} (h : ab_isR (ls 0) = true) : ab_Run ab_mt 220 589 ls st w = ab_Run ab_mt 220 590 ls (ab_gv (ls 0) :: st) w := E_loadr (n := 1) rfl h
set_option maxRecDepth 30000 in
theorem e_220_590 {ls : ab_L} {st : List Value} {w : ab_W} (h : ab_isI (ls 4) = true) : ab_Run ab_mt 220 590 ls st w = ab_Run ab_mt 220 592 ls (ab_gv (ls 4) :: st) w := E_loadi (n := 2) rfl h
set_option maxRecDepth 30000 in
theorem e_220_592 {ls : ab_L} {st : List Value} {w : ab_W} : ab_Run ab_mt 220 592 ls st w = ab_Run ab_mt 220 593 ls (.int (nI 3) :: st) w := E_push (n := 1) rfl
set_option maxRecDepth 30000 in
theorem e_220_593 {ls : ab_L} {st : List Value} {w : ab_W} {x y : Int32} : ab_Run ab_mt 220 593 ls (.int y :: .int x :: st) w = ab_Run ab_mt 220 594 ls (.int (x + y) :: st) w := E_ib (f := fun x y => x + y) rfl
set_option maxRecDepth 30000 in
theorem e_220_594 {ls : ab_L} {st : List Value} {w : ab_W} {a : Nat} {i : Int32} (h : ab_inI i (w.2 a) = true) : ab_Run ab_mt 220 594 ls (.int i :: .ref a :: st) w = ab_Run ab_mt 220 595 ls (.int (ab_aI i.toNatClampNeg (w.2 a)) :: st) w := E_iald rfl h
set_option maxRecDepth 30000 in
theorem e_220_595 {ls : ab_L} {st : List Value} {w : ab_W} (h : ab_isR (ls 3) = true) : ab_Run ab_mt 220 595 ls st w = ab_Run ab_mt 220 596 ls (ab_gv (ls 3) :: st) w := E_loadr (n := 1) rfl h
set_option maxRecDepth 30000 in
theorem e_220_596 {ls : ab_L} {st : List Value} {w : ab_W} {v0 v1 v2 v3 v4 : Value} (h1 : ab_recv ab_mt 199 [v0, v1, v2, v3, v4] w.2 = true) (h8 : ab_w8 st = true) : ab_Run ab_mt 220 596 ls (v4 :: v3 :: v2 :: v1 :: v0 :: st) w = ab_aft 199 220 596 ls st (ab_Cl 199 [v0, v1, v2, v3, v4] w) := E_call5 rfl h1 h8
set_option maxRecDepth 30000 in
theorem e_220_599 {ls : ab_L} {st : List Value} {w : ab_W} {x : Int32} : ab_Run ab_mt 220 599 ls (.int x :: st) w = ab_Run ab_mt 220 601 (ab_l1 ls 5 (.int x)) st w := E_stori (n := 2) rfl
set_option maxRecDepth 30000 in
theorem e_220_601 {ls : ab_L} {st : List Value} {w : ab_W} (h : ab_isR (ls 2) = true) : ab_Run ab_mt 220 601 ls st w = ab_Run ab_mt 220 602 ls (ab_gv (ls 2) :: st) w := E_loadr (n := 1) rfl h
set_option maxRecDepth 30000 in
theorem e_220_602 {ls : ab_L} {st : List Value} {w : ab_W} (h : ab_isR (ls 0) = true) : ab_Run ab_mt 220 602 ls st w = ab_Run ab_mt 220 603 ls (ab_gv (ls 0) :: st) w := E_loadr (n := 1) rfl h
set_option maxRecDepth 30000 in
theorem e_220_603 {ls : ab_L} {st : List Value} {w : ab_W} (h : ab_isI (ls 4) = true) : ab_Run ab_mt 220 603 ls st w = ab_Run ab_mt 220 605 ls (ab_gv (ls 4) :: st) w := E_loadi (n := 2) rfl h
set_option maxRecDepth 30000 in
theorem e_220_605 {ls : ab_L} {st : List Value} {w : ab_W} : ab_Run ab_mt 220 605 ls st w = ab_Run ab_mt 220 606 ls (.int (nI 1) :: st) w := E_push (n := 1) rfl
set_option maxRecDepth 30000 in
theorem e_220_606 {ls : ab_L} {st : List Value} {w : ab_W} {x y : Int32} : ab_Run ab_mt 220 606 ls (.int y :: .int x :: st) w = ab_Run ab_mt 220 607 ls (.int (x + y) :: st) w := E_ib (f := fun x y => x + y) rfl
set_option maxRecDepth 30000 in
theorem e_220_607 {ls : ab_L} {st : List Value} {w : ab_W} {a : Nat} {i : Int32} (h : ab_inI i (w.2 a) = true) : ab_Run ab_mt 220 607 ls (.int i :: .ref a :: st) w = ab_Run ab_mt 220 608 ls (.int (ab_aI i.toNatClampNeg (w.2 a)) :: st) w := E_iald rfl h
set_option maxRecDepth 30000 in
theorem e_220_608 {ls : ab_L} {st : List Value} {w : ab_W} (h : ab_isR (ls 0) = true) : ab_Run ab_mt 220 608 ls st w = ab_Run ab_mt 220 609 ls (ab_gv (ls 0) :: st) w := E_loadr (n := 1) rfl h
set_option maxRecDepth 30000 in
theorem e_220_609 {ls : ab_L} {st : List Value} {w : ab_W} (h : ab_isI (ls 4) = true) : ab_Run ab_mt 220 609 ls st w = ab_Run ab_mt 220 611 ls (ab_gv (ls 4) :: st) w := E_loadi (n := 2) rfl h
set_option maxRecDepth 30000 in
theorem e_220_611 {ls : ab_L} {st : List Value} {w : ab_W} : ab_Run ab_mt 220 611 ls st w = ab_Run ab_mt 220 612 ls (.int (nI 2) :: st) w := E_push (n := 1) rfl
set_option maxRecDepth 30000 in
theorem e_220_612 {ls : ab_L} {st : List Value} {w : ab_W} {x y : Int32} : ab_Run ab_mt 220 612 ls (.int y :: .int x :: st) w = ab_Run ab_mt 220 613 ls (.int (x + y) :: st) w := E_ib (f := fun x y => x + y) rfl
set_option maxRecDepth 30000 in
theorem e_220_613 {ls : ab_L} {st : List Value} {w : ab_W} {a : Nat} {i : Int32} (h : ab_inI i (w.2 a) = true) : ab_Run ab_mt 220 613 ls (.int i :: .ref a :: st) w = ab_Run ab_mt 220 614 ls (.int (ab_aI i.toNatClampNeg (w.2 a)) :: st) w := E_iald rfl h
set_option maxRecDepth 30000 in
theorem e_220_614 {ls : ab_L} {st : List Value} {w : ab_W} (h : ab_isR (ls 0) = true) : ab_Run ab_mt 220 614 ls st w = ab_Run ab_mt 220 615 ls (ab_gv (ls 0) :: st) w := E_loadr (n := 1) rfl h
set_option maxRecDepth 30000 in
theorem e_220_615 {ls : ab_L} {st : List Value} {w : ab_W} (h : ab_isI (ls 4) = true) : ab_Run ab_mt 220 615 ls st w = ab_Run ab_mt 220 617 ls (ab_gv (ls 4) :: st) w := E_loadi (n := 2) rfl h
set_option maxRecDepth 30000 in
theorem e_220_617 {ls : ab_L} {st : List Value} {w : ab_W} : ab_Run ab_mt 220 617 ls st w = ab_Run ab_mt 220 618 ls (.int (nI 3) :: st) w := E_push (n := 1) rfl
set_option maxRecDepth 30000 in
theorem e_220_618 {ls : ab_L} {st : List Value} {w : ab_W} {x y : Int32} : ab_Run ab_mt 220 618 ls (.int y :: .int x :: st) w = ab_Run ab_mt 220 619 ls (.int (x + y) :: st) w := E_ib (f := fun x y => x + y) rfl
set_option maxRecDepth 30000 in
theorem e_220_619 {ls : ab_L} {st : List Value} {w : ab_W} {a : Nat} {i : Int32} (h : ab_inI i (w.2 a) = true) : ab_Run ab_mt 220 619 ls (.int i :: .ref a :: st) w = ab_Run ab_mt 220 620 ls (.int (ab_aI i.toNatClampNeg (w.2 a)) :: st) w := E_iald rfl h
set_option maxRecDepth 30000 in
theorem e_220_620 {ls : ab_L} {st : List Value} {w : ab_W} {v0 v1 v2 v3 : Value} (h1 : ab_recv ab_mt 138 [v0, v1, v2, v3] w.2 = true) (h8 : ab_w8 st = true) : ab_Run ab_mt 220 620 ls (v3 :: v2 :: v1 :: v0 :: st) w = ab_aft 138 220 620 ls st (ab_Cl 138 [v0, v1, v2, v3] w) := E_call4 rfl h1 h8
set_option maxRecDepth 30000 in
theorem e_220_623 {ls : ab_L} {st : List Value} {w : ab_W} {x : Int32} : ab_Run ab_mt 220 623 ls (.int x :: st) w = ab_Run ab_mt 220 625 (ab_l1 ls 6 (.int x)) st w := E_stori (n := 2) rfl
set_option maxRecDepth 30000 in
theorem e_220_625 {ls : ab_L} {st : List Value} {w : ab_W} (h : ab_isR (ls 2) = true) : ab_Run ab_mt 220 625 ls st w = ab_Run ab_mt 220 626 ls (ab_gv (ls 2) :: st) w := E_loadr (n := 1) rfl h
set_option maxRecDepth 30000 in
theorem e_220_626 {ls : ab_L} {st : List Value} {w : ab_W} {v0 : Value} (h1 : ab_recv ab_mt 106 [v0] w.2 = true) (h8 : ab_w8 st = true) : ab_Run ab_mt 220 626 ls (v0 :: st) w = ab_aft 106 220 626 ls st (ab_Cl 106 [v0] w) := E_call1 rfl h1 h8
set_option maxRecDepth 30000 in
theorem e_220_629 {ls : ab_L} {st : List Value} {w : ab_W} (h : ab_isI (ls 5) = true) : ab_Run ab_mt 220 629 ls st w = ab_Run ab_mt 220 631 ls (ab_gv (ls 5) :: st) w := E_loadi (n := 2) rfl h
set_option maxRecDepth 30000 in
theorem e_220_631 {ls : ab_L} {st : List Value} {w : ab_W} {x y : Int32} : ab_Run ab_mt 220 631 ls (.int y :: .int x :: st) w = if x = y then ab_Run ab_mt 220 636 ls st w else ab_Run ab_mt 220 634 ls st w := E_ic_eq rfl
set_option maxRecDepth 30000 in
theorem e_220_634 {ls : ab_L} {st : List Value} {w : ab_W} : ab_Run ab_mt 220 634 ls st w = ab_Run ab_mt 220 635 ls (.int (nI 0) :: st) w := E_push (n := 1) rfl
set_option maxRecDepth 30000 in
theorem e_220_635 {ls : ab_L} {w : ab_W} {x : Int32} (h : ab_fitr 2 (.int x) = true) : ab_Run ab_mt 220 635 ls [.int x] w = some (.inl (some (.int x)), w) := E_retz rfl h
set_option maxRecDepth 30000 in
theorem e_220_636 {ls : ab_L} {st : List Value} {w : ab_W} (h : ab_isI (ls 5) = true) : ab_Run ab_mt 220 636 ls st w = ab_Run ab_mt 220 638 ls (ab_gv (ls 5) :: st) w := E_loadi (n := 2) rfl h
set_option maxRecDepth 30000 in
theorem e_220_638 {ls : ab_L} {st : List Value} {w : ab_W} {x : Int32} : ab_Run ab_mt 220 638 ls (.int x :: st) w = if x = 0 then ab_Run ab_mt 220 641 ls st w else ab_Run ab_mt 220 653 ls st w := E_if_ne rfl
set_option maxRecDepth 30000 in
theorem e_220_641 {ls : ab_L} {st : List Value} {w : ab_W} (h : ab_isR (ls 3) = true) : ab_Run ab_mt 220 641 ls st w = ab_Run ab_mt 220 642 ls (ab_gv (ls 3) :: st) w := E_loadr (n := 1) rfl h
set_option maxRecDepth 30000 in
theorem e_220_642 {ls : ab_L} {st : List Value} {w : ab_W} : ab_Run ab_mt 220 642 ls st w = ab_Run ab_mt 220 643 ls (.int (nI 0) :: st) w := E_push (n := 1) rfl
set_option maxRecDepth 30000 in
theorem e_220_643 {ls : ab_L} {st : List Value} {w : ab_W} {a : Nat} {i : Int32} (h : ab_inL i (w.2 a) = true) : ab_Run ab_mt 220 643 ls (.int i :: .ref a :: st) w = ab_Run ab_mt 220 644 ls (.long (ab_aL i.toNatClampNeg (w.2 a)) :: st) w := E_lald rfl h
set_option maxRecDepth 30000 in
theorem e_220_644 {ls : ab_L} {st : List Value} {w : ab_W} (h : ab_isI (ls 6) = true) : ab_Run ab_mt 220 644 ls st w = ab_Run ab_mt 220 646 ls (ab_gv (ls 6) :: st) w := E_loadi (n := 2) rfl h
set_option maxRecDepth 30000 in
theorem e_220_646 {ls : ab_L} {st : List Value} {w : ab_W} {x : Int32} : ab_Run ab_mt 220 646 ls (.int x :: st) w = ab_Run ab_mt 220 647 ls (.long x.toInt64 :: st) w := E_i2l rfl
set_option maxRecDepth 30000 in
theorem e_220_647 {ls : ab_L} {st : List Value} {w : ab_W} {x y : Int64} : ab_Run ab_mt 220 647 ls (.long y :: .long x :: st) w = ab_Run ab_mt 220 648 ls (.int (lg_cmp x y) :: st) w := E_lcmp rfl
set_option maxRecDepth 30000 in
theorem e_220_648 {ls : ab_L} {st : List Value} {w : ab_W} {x : Int32} : ab_Run ab_mt 220 648 ls (.int x :: st) w = if x = 0 then ab_Run ab_mt 220 653 ls st w else ab_Run ab_mt 220 651 ls st w := E_if_eq rfl
set_option maxRecDepth 30000 in
theorem e_220_651 {ls : ab_L} {st : List Value} {w : ab_W} : ab_Run ab_mt 220 651 ls st w = ab_Run ab_mt 220 652 ls (.int (nI 0) :: st) w := E_push (n := 1) rfl
set_option maxRecDepth 30000 in
theorem e_220_652 {ls : ab_L} {w : ab_W} {x : Int32} (h : ab_fitr 2 (.int x) = true) : ab_Run ab_mt 220 652 ls [.int x] w = some (.inl (some (.int x)), w) := E_retz rfl h
set_option maxRecDepth 30000 in
theorem e_220_653 {ls : ab_L} {st : List Value} {w : ab_W} : ab_Run ab_mt 220 653 ls st w = ab_Run ab_mt 220 2053 ls st w := E_goto rfl
set_option maxRecDepth 30000 in
theorem e_220_656 {ls : ab_L} {st : List Value} {w : ab_W} (h : ab_isR (ls 1) = true) : ab_Run ab_mt 220 656 ls st w = ab_Run ab_mt 220 657 ls (ab_gv (ls 1) :: st) w := E_loadr (n := 1) rfl h
set_option maxRecDepth 30000 in
theorem e_220_657 {ls : ab_L} {st : List Value} {w : ab_W} (h : ab_isR (ls 0) = true) : ab_Run ab_mt 220 657 ls st w = ab_Run ab_mt 220 658 ls (ab_gv (ls 0) :: st) w := E_loadr (n := 1) rfl h
set_option maxRecDepth 30000 in
theorem e_220_658 {ls : ab_L} {st : List Value} {w : ab_W} (h : ab_isI (ls 4) = true) : ab_Run ab_mt 220 658 ls st w = ab_Run ab_mt 220 660 ls (ab_gv (ls 4) :: st) w := E_loadi (n := 2) rfl h
set_option maxRecDepth 30000 in
theorem e_220_660 {ls : ab_L} {st : List Value} {w : ab_W} : ab_Run ab_mt 220 660 ls st w = ab_Run ab_mt 220 661 ls (.int (nI 1) :: st) w := E_push (n := 1) rfl
set_option maxRecDepth 30000 in
theorem e_220_661 {ls : ab_L} {st : List Value} {w : ab_W} {x y : Int32} : ab_Run ab_mt 220 661 ls (.int y :: .int x :: st) w = ab_Run ab_mt 220 662 ls (.int (x + y) :: st) w := E_ib (f := fun x y => x + y) rfl
set_option maxRecDepth 30000 in
theorem e_220_662 {ls : ab_L} {st : List Value} {w : ab_W} {a : Nat} {i : Int32} (h : ab_inI i (w.2 a) = true) : ab_Run ab_mt 220 662 ls (.int i :: .ref a :: st) w = ab_Run ab_mt 220 663 ls (.int (ab_aI i.toNatClampNeg (w.2 a)) :: st) w := E_iald rfl h
set_option maxRecDepth 30000 in
theorem e_220_663 {ls : ab_L} {st : List Value} {w : ab_W} (h : ab_isR (ls 3) = true) : ab_Run ab_mt 220 663 ls st w = ab_Run ab_mt 220 664 ls (ab_gv (ls 3) :: st) w := E_loadr (n := 1) rfl h
set_option maxRecDepth 30000 in
theorem e_220_664 {ls : ab_L} {st : List Value} {w : ab_W} {v0 v1 v2 : Value} (h1 : ab_recv ab_mt 200 [v0, v1, v2] w.2 = true) (h8 : ab_w8 st = true) : ab_Run ab_mt 220 664 ls (v2 :: v1 :: v0 :: st) w = ab_aft 200 220 664 ls st (ab_Cl 200 [v0, v1, v2] w) := E_call3 rfl h1 h8
set_option maxRecDepth 30000 in
theorem e_220_667 {ls : ab_L} {st : List Value} {w : ab_W} {x : Int32} : ab_Run ab_mt 220 667 ls (.int x :: st) w = ab_Run ab_mt 220 669 (ab_l1 ls 5 (.int x)) st w := E_stori (n := 2) rfl
set_option maxRecDepth 30000 in
theorem e_220_669 {ls : ab_L} {st : List Value} {w : ab_W} (h : ab_isR (ls 2) = true) : ab_Run ab_mt 220 669 ls st w = ab_Run ab_mt 220 670 ls (ab_gv (ls 2) :: st) w := E_loadr (n := 1) rfl h
set_option maxRecDepth 30000 in
theorem e_220_670 {ls : ab_L} {st : List Value} {w : ab_W} (h : ab_isR (ls 0) = true) : ab_Run ab_mt 220 670 ls st w = ab_Run ab_mt 220 671 ls (ab_gv (ls 0) :: st) w := E_loadr (n := 1) rfl h
set_option maxRecDepth 30000 in
theorem e_220_671 {ls : ab_L} {st : List Value} {w : ab_W} (h : ab_isI (ls 4) = true) : ab_Run ab_mt 220 671 ls st w = ab_Run ab_mt 220 673 ls (ab_gv (ls 4) :: st) w := E_loadi (n := 2) rfl h
set_option maxRecDepth 30000 in
theorem e_220_673 {ls : ab_L} {st : List Value} {w : ab_W} : ab_Run ab_mt 220 673 ls st w = ab_Run ab_mt 220 674 ls (.int (nI 1) :: st) w := E_push (n := 1) rfl
set_option maxRecDepth 30000 in
theorem e_220_674 {ls : ab_L} {st : List Value} {w : ab_W} {x y : Int32} : ab_Run ab_mt 220 674 ls (.int y :: .int x :: st) w = ab_Run ab_mt 220 675 ls (.int (x + y) :: st) w := E_ib (f := fun x y => x + y) rfl
set_option maxRecDepth 30000 in
theorem e_220_675 {ls : ab_L} {st : List Value} {w : ab_W} {a : Nat} {i : Int32} (h : ab_inI i (w.2 a) = true) : ab_Run ab_mt 220 675 ls (.int i :: .ref a :: st) w = ab_Run ab_mt 220 676 ls (.int (ab_aI i.toNatClampNeg (w.2 a)) :: st) w := E_iald rfl h
set_option maxRecDepth 30000 in
theorem e_220_676 {ls : ab_L} {st : List Value} {w : ab_W} {v0 v1 : Value} (h1 : ab_recv ab_mt 140 [v0, v1] w.2 = true) (h8 : ab_w8 st = true) : ab_Run ab_mt 220 676 ls (v1 :: v0 :: st) w = ab_aft 140 220 676 ls st (ab_Cl 140 [v0, v1] w) := E_call2 rfl h1 h8
set_option maxRecDepth 30000 in
theorem e_220_679 {ls : ab_L} {st : List Value} {w : ab_W} {x : Int32} : ab_Run ab_mt 220 679 ls (.int x :: st) w = ab_Run ab_mt 220 681 (ab_l1 ls 6 (.int x)) st w := E_stori (n := 2) rfl
set_option maxRecDepth 30000 in
theorem e_220_681 {ls : ab_L} {st : List Value} {w : ab_W} (h : ab_isR (ls 2) = true) : ab_Run ab_mt 220 681 ls st w = ab_Run ab_mt 220 682 ls (ab_gv (ls 2) :: st) w := E_loadr (n := 1) rfl h
set_option maxRecDepth 30000 in
theorem e_220_682 {ls : ab_L} {st : List Value} {w : ab_W} {v0 : Value} (h1 : ab_recv ab_mt 106 [v0] w.2 = true) (h8 : ab_w8 st = true) : ab_Run ab_mt 220 682 ls (v0 :: st) w = ab_aft 106 220 682 ls st (ab_Cl 106 [v0] w) := E_call1 rfl h1 h8
set_option maxRecDepth 30000 in
theorem e_220_685 {ls : ab_L} {st : List Value} {w : ab_W} (h : ab_isI (ls 5) = true) : ab_Run ab_mt 220 685 ls st w = ab_Run ab_mt 220 687 ls (ab_gv (ls 5) :: st) w := E_loadi (n := 2) rfl h
set_option maxRecDepth 30000 in
theorem e_220_687 {ls : ab_L} {st : List Value} {w : ab_W} {x y : Int32} : ab_Run ab_mt 220 687 ls (.int y :: .int x :: st) w = if x = y then ab_Run ab_mt 220 692 ls st w else ab_Run ab_mt 220 690 ls st w := E_ic_eq rfl
set_option maxRecDepth 30000 in
theorem e_220_690 {ls : ab_L} {st : List Value} {w : ab_W} : ab_Run ab_mt 220 690 ls st w = ab_Run ab_mt 220 691 ls (.int (nI 0) :: st) w := E_push (n := 1) rfl
set_option maxRecDepth 30000 in
theorem e_220_691 {ls : ab_L} {w : ab_W} {x : Int32} (h : ab_fitr 2 (.int x) = true) : ab_Run ab_mt 220 691 ls [.int x] w = some (.inl (some (.int x)), w) := E_retz rfl h
set_option maxRecDepth 30000 in
theorem e_220_692 {ls : ab_L} {st : List Value} {w : ab_W} (h : ab_isI (ls 5) = true) : ab_Run ab_mt 220 692 ls st w = ab_Run ab_mt 220 694 ls (ab_gv (ls 5) :: st) w := E_loadi (n := 2) rfl h
set_option maxRecDepth 30000 in
theorem e_220_694 {ls : ab_L} {st : List Value} {w : ab_W} {x : Int32} : ab_Run ab_mt 220 694 ls (.int x :: st) w = if x = 0 then ab_Run ab_mt 220 697 ls st w else ab_Run ab_mt 220 709 ls st w := E_if_ne rfl
set_option maxRecDepth 30000 in
theorem e_220_697 {ls : ab_L} {st : List Value} {w : ab_W} (h : ab_isR (ls 3) = true) : ab_Run ab_mt 220 697 ls st w = ab_Run ab_mt 220 698 ls (ab_gv (ls 3) :: st) w := E_loadr (n := 1) rfl h
set_option maxRecDepth 30000 in
theorem e_220_698 {ls : ab_L} {st : List Value} {w : ab_W} : ab_Run ab_mt 220 698 ls st w = ab_Run ab_mt 220 699 ls (.int (nI 0) :: st) w := E_push (n := 1) rfl
set_option maxRecDepth 30000 in
theorem e_220_699 {ls : ab_L} {st : List Value} {w : ab_W} {a : Nat} {i : Int32} (h : ab_inL i (w.2 a) = true) : ab_Run ab_mt 220 699 ls (.int i :: .ref a :: st) w = ab_Run ab_mt 220 700 ls (.long (ab_aL i.toNatClampNeg (w.2 a)) :: st) w := E_lald rfl h
set_option maxRecDepth 30000 in
theorem e_220_700 {ls : ab_L} {st : List Value} {w : ab_W} (h : ab_isI (ls 6) = true) : ab_Run ab_mt 220 700 ls st w = ab_Run ab_mt 220 702 ls (ab_gv (ls 6) :: st) w := E_loadi (n := 2) rfl h
set_option maxRecDepth 30000 in
theorem e_220_702 {ls : ab_L} {st : List Value} {w : ab_W} {x : Int32} : ab_Run ab_mt 220 702 ls (.int x :: st) w = ab_Run ab_mt 220 703 ls (.long x.toInt64 :: st) w := E_i2l rfl
set_option maxRecDepth 30000 in
theorem e_220_703 {ls : ab_L} {st : List Value} {w : ab_W} {x y : Int64} : ab_Run ab_mt 220 703 ls (.long y :: .long x :: st) w = ab_Run ab_mt 220 704 ls (.int (lg_cmp x y) :: st) w := E_lcmp rfl
set_option maxRecDepth 30000 in
theorem e_220_704 {ls : ab_L} {st : List Value} {w : ab_W} {x : Int32} : ab_Run ab_mt 220 704 ls (.int x :: st) w = if x = 0 then ab_Run ab_mt 220 709 ls st w else ab_Run ab_mt 220 707 ls st w := E_if_eq rfl
set_option maxRecDepth 30000 in
theorem e_220_707 {ls : ab_L} {st : List Value} {w : ab_W} : ab_Run ab_mt 220 707 ls st w = ab_Run ab_mt 220 708 ls (.int (nI 0) :: st) w := E_push (n := 1) rfl
set_option maxRecDepth 30000 in
theorem e_220_708 {ls : ab_L} {w : ab_W} {x : Int32} (h : ab_fitr 2 (.int x) = true) : ab_Run ab_mt 220 708 ls [.int x] w = some (.inl (some (.int x)), w) := E_retz rfl h
set_option maxRecDepth 30000 in
theorem e_220_709 {ls : ab_L} {st : List Value} {w : ab_W} : ab_Run ab_mt 220 709 ls st w = ab_Run ab_mt 220 2053 ls st w := E_goto rfl
set_option maxRecDepth 30000 in
theorem e_220_712 {ls : ab_L} {st : List Value} {w : ab_W} (h : ab_isR (ls 1) = true) : ab_Run ab_mt 220 712 ls st w = ab_Run ab_mt 220 713 ls (ab_gv (ls 1) :: st) w := E_loadr (n := 1) rfl h
set_option maxRecDepth 30000 in
theorem e_220_713 {ls : ab_L} {st : List Value} {w : ab_W} (h : ab_isR (ls 3) = true) : ab_Run ab_mt 220 713 ls st w = ab_Run ab_mt 220 714 ls (ab_gv (ls 3) :: st) w := E_loadr (n := 1) rfl h
set_option maxRecDepth 30000 in
theorem e_220_714 {ls : ab_L} {st : List Value} {w : ab_W} {v0 v1 : Value} (h1 : ab_recv ab_mt 201 [v0, v1] w.2 = true) (h8 : ab_w8 st = true) : ab_Run ab_mt 220 714 ls (v1 :: v0 :: st) w = ab_aft 201 220 714 ls st (ab_Cl 201 [v0, v1] w) := E_call2 rfl h1 h8
set_option maxRecDepth 30000 in
theorem e_220_717 {ls : ab_L} {st : List Value} {w : ab_W} {x : Int32} : ab_Run ab_mt 220 717 ls (.int x :: st) w = ab_Run ab_mt 220 719 (ab_l1 ls 5 (.int x)) st w := E_stori (n := 2) rfl
set_option maxRecDepth 30000 in
theorem e_220_719 {ls : ab_L} {st : List Value} {w : ab_W} (h : ab_isR (ls 2) = true) : ab_Run ab_mt 220 719 ls st w = ab_Run ab_mt 220 720 ls (ab_gv (ls 2) :: st) w := E_loadr (n := 1) rfl h
set_option maxRecDepth 30000 in
theorem e_220_720 {ls : ab_L} {st : List Value} {w : ab_W} {v0 : Value} (h1 : ab_recv ab_mt 150 [v0] w.2 = true) (h8 : ab_w8 st = true) : ab_Run ab_mt 220 720 ls (v0 :: st) w = ab_aft 150 220 720 ls st (ab_Cl 150 [v0] w) := E_call1 rfl h1 h8
set_option maxRecDepth 30000 in
theorem e_220_723 {ls : ab_L} {st : List Value} {w : ab_W} {x : Int32} : ab_Run ab_mt 220 723 ls (.int x :: st) w = ab_Run ab_mt 220 725 (ab_l1 ls 6 (.int x)) st w := E_stori (n := 2) rfl
set_option maxRecDepth 30000 in
theorem e_220_725 {ls : ab_L} {st : List Value} {w : ab_W} (h : ab_isR (ls 2) = true) : ab_Run ab_mt 220 725 ls st w = ab_Run ab_mt 220 726 ls (ab_gv (ls 2) :: st) w := E_loadr (n := 1) rfl h
set_option maxRecDepth 30000 in
theorem e_220_726 {ls : ab_L} {st : List Value} {w : ab_W} {v0 : Value} (h1 : ab_recv ab_mt 106 [v0] w.2 = true) (h8 : ab_w8 st = true) : ab_Run ab_mt 220 726 ls (v0 :: st) w = ab_aft 106 220 726 ls st (ab_Cl 106 [v0] w) := E_call1 rfl h1 h8
set_option maxRecDepth 30000 in
theorem e_220_729 {ls : ab_L} {st : List Value} {w : ab_W} (h : ab_isI (ls 5) = true) : ab_Run ab_mt 220 729 ls st w = ab_Run ab_mt 220 731 ls (ab_gv (ls 5) :: st) w := E_loadi (n := 2) rfl h
set_option maxRecDepth 30000 in
theorem e_220_731 {ls : ab_L} {st : List Value} {w : ab_W} {x y : Int32} : ab_Run ab_mt 220 731 ls (.int y :: .int x :: st) w = if x = y then ab_Run ab_mt 220 736 ls st w else ab_Run ab_mt 220 734 ls st w := E_ic_eq rfl
set_option maxRecDepth 30000 in
theorem e_220_734 {ls : ab_L} {st : List Value} {w : ab_W} : ab_Run ab_mt 220 734 ls st w = ab_Run ab_mt 220 735 ls (.int (nI 0) :: st) w := E_push (n := 1) rfl
set_option maxRecDepth 30000 in
theorem e_220_735 {ls : ab_L} {w : ab_W} {x : Int32} (h : ab_fitr 2 (.int x) = true) : ab_Run ab_mt 220 735 ls [.int x] w = some (.inl (some (.int x)), w) := E_retz rfl h
set_option maxRecDepth 30000 in
theorem e_220_736 {ls : ab_L} {st : List Value} {w : ab_W} (h : ab_isI (ls 5) = true) : ab_Run ab_mt 220 736 ls st w = ab_Run ab_mt 220 738 ls (ab_gv (ls 5) :: st) w := E_loadi (n := 2) rfl h
set_option maxRecDepth 30000 in
theorem e_220_738 {ls : ab_L} {st : List Value} {w : ab_W} {x : Int32} : ab_Run ab_mt 220 738 ls (.int x :: st) w = if x = 0 then ab_Run ab_mt 220 741 ls st w else ab_Run ab_mt 220 753 ls st w := E_if_ne rfl
set_option maxRecDepth 30000 in
theorem e_220_741 {ls : ab_L} {st : List Value} {w : ab_W} (h : ab_isR (ls 3) = true) : ab_Run ab_mt 220 741 ls st w = ab_Run ab_mt 220 742 ls (ab_gv (ls 3) :: st) w := E_loadr (n := 1) rfl h
set_option maxRecDepth 30000 in
theorem e_220_742 {ls : ab_L} {st : List Value} {w : ab_W} : ab_Run ab_mt 220 742 ls st w = ab_Run ab_mt 220 743 ls (.int (nI 0) :: st) w := E_push (n := 1) rfl
set_option maxRecDepth 30000 in
theorem e_220_743 {ls : ab_L} {st : List Value} {w : ab_W} {a : Nat} {i : Int32} (h : ab_inL i (w.2 a) = true) : ab_Run ab_mt 220 743 ls (.int i :: .ref a :: st) w = ab_Run ab_mt 220 744 ls (.long (ab_aL i.toNatClampNeg (w.2 a)) :: st) w := E_lald rfl h
set_option maxRecDepth 30000 in
theorem e_220_744 {ls : ab_L} {st : List Value} {w : ab_W} (h : ab_isI (ls 6) = true) : ab_Run ab_mt 220 744 ls st w = ab_Run ab_mt 220 746 ls (ab_gv (ls 6) :: st) w := E_loadi (n := 2) rfl h
set_option maxRecDepth 30000 in
theorem e_220_746 {ls : ab_L} {st : List Value} {w : ab_W} {x : Int32} : ab_Run ab_mt 220 746 ls (.int x :: st) w = ab_Run ab_mt 220 747 ls (.long x.toInt64 :: st) w := E_i2l rfl
set_option maxRecDepth 30000 in
theorem e_220_747 {ls : ab_L} {st : List Value} {w : ab_W} {x y : Int64} : ab_Run ab_mt 220 747 ls (.long y :: .long x :: st) w = ab_Run ab_mt 220 748 ls (.int (lg_cmp x y) :: st) w := E_lcmp rfl
set_option maxRecDepth 30000 in
theorem e_220_748 {ls : ab_L} {st : List Value} {w : ab_W} {x : Int32} : ab_Run ab_mt 220 748 ls (.int x :: st) w = if x = 0 then ab_Run ab_mt 220 753 ls st w else ab_Run ab_mt 220 751 ls st w := E_if_eq rfl
set_option maxRecDepth 30000 in
theorem e_220_751 {ls : ab_L} {st : List Value} {w : ab_W} : ab_Run ab_mt 220 751 ls st w = ab_Run ab_mt 220 752 ls (.int (nI 0) :: st) w := E_push (n := 1) rfl
set_option maxRecDepth 30000 in
theorem e_220_752 {ls : ab_L} {w : ab_W} {x : Int32} (h : ab_fitr 2 (.int x) = true) : ab_Run ab_mt 220 752 ls [.int x] w = some (.inl (some (.int x)), w) := E_retz rfl h
set_option maxRecDepth 30000 in
theorem e_220_753 {ls : ab_L} {st : List Value} {w : ab_W} : ab_Run ab_mt 220 753 ls st w = ab_Run ab_mt 220 2053 ls st w := E_goto rfl
set_option maxRecDepth 30000 in
theorem e_220_756 {ls : ab_L} {st : List Value} {w : ab_W} (h : ab_isR (ls 1) = true) : ab_Run ab_mt 220 756 ls st w = ab_Run ab_mt 220 757 ls (ab_gv (ls 1) :: st) w := E_loadr (n := 1) rfl h
set_option maxRecDepth 30000 in
theorem e_220_757 {ls : ab_L} {st : List Value} {w : ab_W} (h : ab_isR (ls 3) = true) : ab_Run ab_mt 220 757 ls st w = ab_Run ab_mt 220 758 ls (ab_gv (ls 3) :: st) w := E_loadr (n := 1) rfl h
set_option maxRecDepth 30000 in
theorem e_220_758 {ls : ab_L} {st : List Value} {w : ab_W} {v0 v1 : Value} (h1 : ab_recv ab_mt 202 [v0, v1] w.2 = true) (h8 : ab_w8 st = true) : ab_Run ab_mt 220 758 ls (v1 :: v0 :: st) w = ab_aft 202 220 758 ls st (ab_Cl 202 [v0, v1] w) := E_call2 rfl h1 h8
set_option maxRecDepth 30000 in
theorem e_220_761 {ls : ab_L} {st : List Value} {w : ab_W} {x : Int32} : ab_Run ab_mt 220 761 ls (.int x :: st) w = ab_Run ab_mt 220 763 (ab_l1 ls 5 (.int x)) st w := E_stori (n := 2) rfl
set_option maxRecDepth 30000 in
theorem e_220_763 {ls : ab_L} {st : List Value} {w : ab_W} (h : ab_isR (ls 2) = true) : ab_Run ab_mt 220 763 ls st w = ab_Run ab_mt 220 764 ls (ab_gv (ls 2) :: st) w := E_loadr (n := 1) rfl h
set_option maxRecDepth 30000 in
theorem e_220_764 {ls : ab_L} {st : List Value} {w : ab_W} {v0 : Value} (h1 : ab_recv ab_mt 151 [v0] w.2 = true) (h8 : ab_w8 st = true) : ab_Run ab_mt 220 764 ls (v0 :: st) w = ab_aft 151 220 764 ls st (ab_Cl 151 [v0] w) := E_call1 rfl h1 h8
set_option maxRecDepth 30000 in
theorem e_220_767 {ls : ab_L} {st : List Value} {w : ab_W} {x : Int32} : ab_Run ab_mt 220 767 ls (.int x :: st) w = ab_Run ab_mt 220 769 (ab_l1 ls 6 (.int x)) st w := E_stori (n := 2) rfl
set_option maxRecDepth 30000 in
theorem e_220_769 {ls : ab_L} {st : List Value} {w : ab_W} (h : ab_isR (ls 2) = true) : ab_Run ab_mt 220 769 ls st w = ab_Run ab_mt 220 770 ls (ab_gv (ls 2) :: st) w := E_loadr (n := 1) rfl h
set_option maxRecDepth 30000 in
theorem e_220_770 {ls : ab_L} {st : List Value} {w : ab_W} {v0 : Value} (h1 : ab_recv ab_mt 106 [v0] w.2 = true) (h8 : ab_w8 st = true) : ab_Run ab_mt 220 770 ls (v0 :: st) w = ab_aft 106 220 770 ls st (ab_Cl 106 [v0] w) := E_call1 rfl h1 h8
set_option maxRecDepth 30000 in
theorem e_220_773 {ls : ab_L} {st : List Value} {w : ab_W} (h : ab_isI (ls 5) = true) : ab_Run ab_mt 220 773 ls st w = ab_Run ab_mt 220 775 ls (ab_gv (ls 5) :: st) w := E_loadi (n := 2) rfl h
set_option maxRecDepth 30000 in
theorem e_220_775 {ls : ab_L} {st : List Value} {w : ab_W} {x y : Int32} : ab_Run ab_mt 220 775 ls (.int y :: .int x :: st) w = if x = y then ab_Run ab_mt 220 780 ls st w else ab_Run ab_mt 220 778 ls st w := E_ic_eq rfl
set_option maxRecDepth 30000 in
theorem e_220_778 {ls : ab_L} {st : List Value} {w : ab_W} : ab_Run ab_mt 220 778 ls st w = ab_Run ab_mt 220 779 ls (.int (nI 0) :: st) w := E_push (n := 1) rfl
set_option maxRecDepth 30000 in
theorem e_220_779 {ls : ab_L} {w : ab_W} {x : Int32} (h : ab_fitr 2 (.int x) = true) : ab_Run ab_mt 220 779 ls [.int x] w = some (.inl (some (.int x)), w) := E_retz rfl h
set_option maxRecDepth 30000 in
theorem e_220_780 {ls : ab_L} {st : List Value} {w : ab_W} (h : ab_isI (ls 5) = true) : ab_Run ab_mt 220 780 ls st w = ab_Run ab_mt 220 782 ls (ab_gv (ls 5) :: st) w := E_loadi (n := 2) rfl h
set_option maxRecDepth 30000 in
theorem e_220_782 {ls : ab_L} {st : List Value} {w : ab_W} {x : Int32} : ab_Run ab_mt 220 782 ls (.int x :: st) w = if x = 0 then ab_Run ab_mt 220 785 ls st w else ab_Run ab_mt 220 797 ls st w := E_if_ne rfl
set_option maxRecDepth 30000 in
theorem e_220_785 {ls : ab_L} {st : List Value} {w : ab_W} (h : ab_isR (ls 3) = true) : ab_Run ab_mt 220 785 ls st w = ab_Run ab_mt 220 786 ls (ab_gv (ls 3) :: st) w := E_loadr (n := 1) rfl h
set_option maxRecDepth 30000 in
theorem e_220_786 {ls : ab_L} {st : List Value} {w : ab_W} : ab_Run ab_mt 220 786 ls st w = ab_Run ab_mt 220 787 ls (.int (nI 0) :: st) w := E_push (n := 1) rfl
set_option maxRecDepth 30000 in
theorem e_220_787 {ls : ab_L} {st : List Value} {w : ab_W} {a : Nat} {i : Int32} (h : ab_inL i (w.2 a) = true) : ab_Run ab_mt 220 787 ls (.int i :: .ref a :: st) w = ab_Run ab_mt 220 788 ls (.long (ab_aL i.toNatClampNeg (w.2 a)) :: st) w := E_lald rfl h
set_option maxRecDepth 30000 in
theorem e_220_788 {ls : ab_L} {st : List Value} {w : ab_W} (h : ab_isI (ls 6) = true) : ab_Run ab_mt 220 788 ls st w = ab_Run ab_mt 220 790 ls (ab_gv (ls 6) :: st) w := E_loadi (n := 2) rfl h
set_option maxRecDepth 30000 in
theorem e_220_790 {ls : ab_L} {st : List Value} {w : ab_W} {x : Int32} : ab_Run ab_mt 220 790 ls (.int x :: st) w = ab_Run ab_mt 220 791 ls (.long x.toInt64 :: st) w := E_i2l rfl
set_option maxRecDepth 30000 in
theorem e_220_791 {ls : ab_L} {st : List Value} {w : ab_W} {x y : Int64} : ab_Run ab_mt 220 791 ls (.long y :: .long x :: st) w = ab_Run ab_mt 220 792 ls (.int (lg_cmp x y) :: st) w := E_lcmp rfl
set_option maxRecDepth 30000 in
theorem e_220_792 {ls : ab_L} {st : List Value} {w : ab_W} {x : Int32} : ab_Run ab_mt 220 792 ls (.int x :: st) w = if x = 0 then ab_Run ab_mt 220 797 ls st w else ab_Run ab_mt 220 795 ls st w := E_if_eq rfl
set_option maxRecDepth 30000 in
theorem e_220_795 {ls : ab_L} {st : List Value} {w : ab_W} : ab_Run ab_mt 220 795 ls st w = ab_Run ab_mt 220 796 ls (.int (nI 0) :: st) w := E_push (n := 1) rfl
set_option maxRecDepth 30000 in
theorem e_220_796 {ls : ab_L} {w : ab_W} {x : Int32} (h : ab_fitr 2 (.int x) = true) : ab_Run ab_mt 220 796 ls [.int x] w = some (.inl (some (.int x)), w) := E_retz rfl h
set_option maxRecDepth 30000 in
theorem e_220_797 {ls : ab_L} {st : List Value} {w : ab_W} : ab_Run ab_mt 220 797 ls st w = ab_Run ab_mt 220 2053 ls st w := E_goto rfl
set_option maxRecDepth 30000 in
theorem e_220_800 {ls : ab_L} {st : List Value} {w : ab_W} (h : ab_isR (ls 1) = true) : ab_Run ab_mt 220 800 ls st w = ab_Run ab_mt 220 801 ls (ab_gv (ls 1) :: st) w := E_loadr (n := 1) rfl h
set_option maxRecDepth 30000 in
theorem e_220_801 {ls : ab_L} {st : List Value} {w : ab_W} (h : ab_isR (ls 0) = true) : ab_Run ab_mt 220 801 ls st w = ab_Run ab_mt 220 802 ls (ab_gv (ls 0) :: st) w := E_loadr (n := 1) rfl h
set_option maxRecDepth 30000 in
theorem e_220_802 {ls : ab_L} {st : List Value} {w : ab_W} (h : ab_isI (ls 4) = true) : ab_Run ab_mt 220 802 ls st w = ab_Run ab_mt 220 804 ls (ab_gv (ls 4) :: st) w := E_loadi (n := 2) rfl h
set_option maxRecDepth 30000 in
theorem e_220_804 {ls : ab_L} {st : List Value} {w : ab_W} : ab_Run ab_mt 220 804 ls st w = ab_Run ab_mt 220 805 ls (.int (nI 1) :: st) w := E_push (n := 1) rfl
set_option maxRecDepth 30000 in
theorem e_220_805 {ls : ab_L} {st : List Value} {w : ab_W} {x y : Int32} : ab_Run ab_mt 220 805 ls (.int y :: .int x :: st) w = ab_Run ab_mt 220 806 ls (.int (x + y) :: st) w := E_ib (f := fun x y => x + y) rfl
set_option maxRecDepth 30000 in
theorem e_220_806 {ls : ab_L} {st : List Value} {w : ab_W} {a : Nat} {i : Int32} (h : ab_inI i (w.2 a) = true) : ab_Run ab_mt 220 806 ls (.int i :: .ref a :: st) w = ab_Run ab_mt 220 807 ls (.int (ab_aI i.toNatClampNeg (w.2 a)) :: st) w := E_iald rfl h
set_option maxRecDepth 30000 in
theorem e_220_807 {ls : ab_L} {st : List Value} {w : ab_W} (h : ab_isR (ls 3) = true) : ab_Run ab_mt 220 807 ls st w = ab_Run ab_mt 220 808 ls (ab_gv (ls 3) :: st) w := E_loadr (n := 1) rfl h
set_option maxRecDepth 30000 in
theorem e_220_808 {ls : ab_L} {st : List Value} {w : ab_W} {v0 v1 v2 : Value} (h1 : ab_recv ab_mt 203 [v0, v1, v2] w.2 = true) (h8 : ab_w8 st = true) : ab_Run ab_mt 220 808 ls (v2 :: v1 :: v0 :: st) w = ab_aft 203 220 808 ls st (ab_Cl 203 [v0, v1, v2] w) := E_call3 rfl h1 h8
set_option maxRecDepth 30000 in
theorem e_220_811 {ls : ab_L} {st : List Value} {w : ab_W} {x : Int32} : ab_Run ab_mt 220 811 ls (.int x :: st) w = ab_Run ab_mt 220 813 (ab_l1 ls 5 (.int x)) st w := E_stori (n := 2) rfl
set_option maxRecDepth 30000 in
theorem e_220_813 {ls : ab_L} {st : List Value} {w : ab_W} (h : ab_isR (ls 2) = true) : ab_Run ab_mt 220 813 ls st w = ab_Run ab_mt 220 814 ls (ab_gv (ls 2) :: st) w := E_loadr (n := 1) rfl h
set_option maxRecDepth 30000 in
theorem e_220_814 {ls : ab_L} {st : List Value} {w : ab_W} (h : ab_isR (ls 0) = true) : ab_Run ab_mt 220 814 ls st w = ab_Run ab_mt 220 815 ls (ab_gv (ls 0) :: st) w := E_loadr (n := 1) rfl h
set_option maxRecDepth 30000 in
theorem e_220_815 {ls : ab_L} {st : List Value} {w : ab_W} (h : ab_isI (ls 4) = true) : ab_Run ab_mt 220 815 ls st w = ab_Run ab_mt 220 817 ls (ab_gv (ls 4) :: st) w := E_loadi (n := 2) rfl h
set_option maxRecDepth 30000 in
theorem e_220_817 {ls : ab_L} {st : List Value} {w : ab_W} : ab_Run ab_mt 220 817 ls st w = ab_Run ab_mt 220 818 ls (.int (nI 1) :: st) w := E_push (n := 1) rfl
set_option maxRecDepth 30000 in
theorem e_220_818 {ls : ab_L} {st : List Value} {w : ab_W} {x y : Int32} : ab_Run ab_mt 220 818 ls (.int y :: .int x :: st) w = ab_Run ab_mt 220 819 ls (.int (x + y) :: st) w := E_ib (f := fun x y => x + y) rfl
set_option maxRecDepth 30000 in
theorem e_220_819 {ls : ab_L} {st : List Value} {w : ab_W} {a : Nat} {i : Int32} (h : ab_inI i (w.2 a) = true) : ab_Run ab_mt 220 819 ls (.int i :: .ref a :: st) w = ab_Run ab_mt 220 820 ls (.int (ab_aI i.toNatClampNeg (w.2 a)) :: st) w := E_iald rfl h
set_option maxRecDepth 30000 in
theorem e_220_820 {ls : ab_L} {st : List Value} {w : ab_W} {v0 v1 : Value} (h1 : ab_recv ab_mt 153 [v0, v1] w.2 = true) (h8 : ab_w8 st = true) : ab_Run ab_mt 220 820 ls (v1 :: v0 :: st) w = ab_aft 153 220 820 ls st (ab_Cl 153 [v0, v1] w) := E_call2 rfl h1 h8
set_option maxRecDepth 30000 in
theorem e_220_823 {ls : ab_L} {st : List Value} {w : ab_W} {x : Int32} : ab_Run ab_mt 220 823 ls (.int x :: st) w = ab_Run ab_mt 220 825 (ab_l1 ls 6 (.int x)) st w := E_stori (n := 2) rfl
set_option maxRecDepth 30000 in
theorem e_220_825 {ls : ab_L} {st : List Value} {w : ab_W} (h : ab_isR (ls 2) = true) : ab_Run ab_mt 220 825 ls st w = ab_Run ab_mt 220 826 ls (ab_gv (ls 2) :: st) w := E_loadr (n := 1) rfl h
set_option maxRecDepth 30000 in
theorem e_220_826 {ls : ab_L} {st : List Value} {w : ab_W} {v0 : Value} (h1 : ab_recv ab_mt 106 [v0] w.2 = true) (h8 : ab_w8 st = true) : ab_Run ab_mt 220 826 ls (v0 :: st) w = ab_aft 106 220 826 ls st (ab_Cl 106 [v0] w) := E_call1 rfl h1 h8
set_option maxRecDepth 30000 in
theorem e_220_829 {ls : ab_L} {st : List Value} {w : ab_W} (h : ab_isI (ls 5) = true) : ab_Run ab_mt 220 829 ls st w = ab_Run ab_mt 220 831 ls (ab_gv (ls 5) :: st) w := E_loadi (n := 2) rfl h
set_option maxRecDepth 30000 in
theorem e_220_831 {ls : ab_L} {st : List Value} {w : ab_W} {x y : Int32} : ab_Run ab_mt 220 831 ls (.int y :: .int x :: st) w = if x = y then ab_Run ab_mt 220 836 ls st w else ab_Run ab_mt 220 834 ls st w := E_ic_eq rfl
set_option maxRecDepth 30000 in
theorem e_220_834 {ls : ab_L} {st : List Value} {w : ab_W} : ab_Run ab_mt 220 834 ls st w = ab_Run ab_mt 220 835 ls (.int (nI 0) :: st) w := E_push (n := 1) rfl
set_option maxRecDepth 30000 in
theorem e_220_835 {ls : ab_L} {w : ab_W} {x : Int32} (h : ab_fitr 2 (.int x) = true) : ab_Run ab_mt 220 835 ls [.int x] w = some (.inl (some (.int x)), w) := E_retz rfl h
set_option maxRecDepth 30000 in
theorem e_220_836 {ls : ab_L} {st : List Value} {w : ab_W} (h : ab_isI (ls 5) = true) : ab_Run ab_mt 220 836 ls st w = ab_Run ab_mt 220 838 ls (ab_gv (ls 5) :: st) w := E_loadi (n := 2) rfl h
set_option maxRecDepth 30000 in
theorem e_220_838 {ls : ab_L} {st : List Value} {w : ab_W} {x : Int32} : ab_Run ab_mt 220 838 ls (.int x :: st) w = if x = 0 then ab_Run ab_mt 220 841 ls st w else ab_Run ab_mt 220 853 ls st w := E_if_ne rfl
set_option maxRecDepth 30000 in
theorem e_220_841 {ls : ab_L} {st : List Value} {w : ab_W} (h : ab_isR (ls 3) = true) : ab_Run ab_mt 220 841 ls st w = ab_Run ab_mt 220 842 ls (ab_gv (ls 3) :: st) w := E_loadr (n := 1) rfl h
set_option maxRecDepth 30000 in
theorem e_220_842 {ls : ab_L} {st : List Value} {w : ab_W} : ab_Run ab_mt 220 842 ls st w = ab_Run ab_mt 220 843 ls (.int (nI 0) :: st) w := E_push (n := 1) rfl
set_option maxRecDepth 30000 in
theorem e_220_843 {ls : ab_L} {st : List Value} {w : ab_W} {a : Nat} {i : Int32} (h : ab_inL i (w.2 a) = true) : ab_Run ab_mt 220 843 ls (.int i :: .ref a :: st) w = ab_Run ab_mt 220 844 ls (.long (ab_aL i.toNatClampNeg (w.2 a)) :: st) w := E_lald rfl h
set_option maxRecDepth 30000 in
theorem e_220_844 {ls : ab_L} {st : List Value} {w : ab_W} (h : ab_isI (ls 6) = true) : ab_Run ab_mt 220 844 ls st w = ab_Run ab_mt 220 846 ls (ab_gv (ls 6) :: st) w := E_loadi (n := 2) rfl h
set_option maxRecDepth 30000 in
theorem e_220_846 {ls : ab_L} {st : List Value} {w : ab_W} {x : Int32} : ab_Run ab_mt 220 846 ls (.int x :: st) w = ab_Run ab_mt 220 847 ls (.long x.toInt64 :: st) w := E_i2l rfl
set_option maxRecDepth 30000 in
theorem e_220_847 {ls : ab_L} {st : List Value} {w : ab_W} {x y : Int64} : ab_Run ab_mt 220 847 ls (.long y :: .long x :: st) w = ab_Run ab_mt 220 848 ls (.int (lg_cmp x y) :: st) w := E_lcmp rfl
set_option maxRecDepth 30000 in
theorem e_220_848 {ls : ab_L} {st : List Value} {w : ab_W} {x : Int32} : ab_Run ab_mt 220 848 ls (.int x :: st) w = if x = 0 then ab_Run ab_mt 220 853 ls st w else ab_Run ab_mt 220 851 ls st w := E_if_eq rfl
set_option maxRecDepth 30000 in
theorem e_220_851 {ls : ab_L} {st : List Value} {w : ab_W} : ab_Run ab_mt 220 851 ls st w = ab_Run ab_mt 220 852 ls (.int (nI 0) :: st) w := E_push (n := 1) rfl
set_option maxRecDepth 30000 in
theorem e_220_852 {ls : ab_L} {w : ab_W} {x : Int32} (h : ab_fitr 2 (.int x) = true) : ab_Run ab_mt 220 852 ls [.int x] w = some (.inl (some (.int x)), w) := E_retz rfl h
set_option maxRecDepth 30000 in
theorem e_220_853 {ls : ab_L} {st : List Value} {w : ab_W} : ab_Run ab_mt 220 853 ls st w = ab_Run ab_mt 220 2053 ls st w := E_goto rfl
set_option maxRecDepth 30000 in
theorem e_220_856 {ls : ab_L} {st : List Value} {w : ab_W} (h : ab_isR (ls 1) = true) : ab_Run ab_mt 220 856 ls st w = ab_Run ab_mt 220 857 ls (ab_gv (ls 1) :: st) w := E_loadr (n := 1) rfl h
set_option maxRecDepth 30000 in
theorem e_220_857 {ls : ab_L} {st : List Value} {w : ab_W} (h : ab_isR (ls 0) = true) : ab_Run ab_mt 220 857 ls st w = ab_Run ab_mt 220 858 ls (ab_gv (ls 0) :: st) w := E_loadr (n := 1) rfl h
set_option maxRecDepth 30000 in
theorem e_220_858 {ls : ab_L} {st : List Value} {w : ab_W} (h : ab_isI (ls 4) = true) : ab_Run ab_mt 220 858 ls st w = ab_Run ab_mt 220 860 ls (ab_gv (ls 4) :: st) w := E_loadi (n := 2) rfl h
set_option maxRecDepth 30000 in
theorem e_220_860 {ls : ab_L} {st : List Value} {w : ab_W} : ab_Run ab_mt 220 860 ls st w = ab_Run ab_mt 220 861 ls (.int (nI 1) :: st) w := E_push (n := 1) rfl
set_option maxRecDepth 30000 in
theorem e_220_861 {ls : ab_L} {st : List Value} {w : ab_W} {x y : Int32} : ab_Run ab_mt 220 861 ls (.int y :: .int x :: st) w = ab_Run ab_mt 220 862 ls (.int (x + y) :: st) w := E_ib (f := fun x y => x + y) rfl
set_option maxRecDepth 30000 in
theorem e_220_862 {ls : ab_L} {st : List Value} {w : ab_W} {a : Nat} {i : Int32} (h : ab_inI i (w.2 a) = true) : ab_Run ab_mt 220 862 ls (.int i :: .ref a :: st) w = ab_Run ab_mt 220 863 ls (.int (ab_aI i.toNatClampNeg (w.2 a)) :: st) w := E_iald rfl h
set_option maxRecDepth 30000 in
theorem e_220_863 {ls : ab_L} {st : List Value} {w : ab_W} (h : ab_isR (ls 3) = true) : ab_Run ab_mt 220 863 ls st w = ab_Run ab_mt 220 864 ls (ab_gv (ls 3) :: st) w := E_loadr (n := 1) rfl h
set_option maxRecDepth 30000 in
theorem e_220_864 {ls : ab_L} {st : List Value} {w : ab_W} {v0 v1 v2 : Value} (h1 : ab_recv ab_mt 204 [v0, v1, v2] w.2 = true) (h8 : ab_w8 st = true) : ab_Run ab_mt 220 864 ls (v2 :: v1 :: v0 :: st) w = ab_aft 204 220 864 ls st (ab_Cl 204 [v0, v1, v2] w) := E_call3 rfl h1 h8
set_option maxRecDepth 30000 in
theorem e_220_867 {ls : ab_L} {st : List Value} {w : ab_W} {x : Int32} : ab_Run ab_mt 220 867 ls (.int x :: st) w = ab_Run ab_mt 220 869 (ab_l1 ls 5 (.int x)) st w := E_stori (n := 2) rfl
set_option maxRecDepth 30000 in
theorem e_220_869 {ls : ab_L} {st : List Value} {w : ab_W} (h : ab_isR (ls 2) = true) : ab_Run ab_mt 220 869 ls st w = ab_Run ab_mt 220 870 ls (ab_gv (ls 2) :: st) w := E_loadr (n := 1) rfl h
set_option maxRecDepth 30000 in
theorem e_220_870 {ls : ab_L} {st : List Value} {w : ab_W} (h : ab_isR (ls 0) = true) : ab_Run ab_mt 220 870 ls st w = ab_Run ab_mt 220 871 ls (ab_gv (ls 0) :: st) w := E_loadr (n := 1) rfl h
set_option maxRecDepth 30000 in
theorem e_220_871 {ls : ab_L} {st : List Value} {w : ab_W} (h : ab_isI (ls 4) = true) : ab_Run ab_mt 220 871 ls st w = ab_Run ab_mt 220 873 ls (ab_gv (ls 4) :: st) w := E_loadi (n := 2) rfl h
set_option maxRecDepth 30000 in
theorem e_220_873 {ls : ab_L} {st : List Value} {w : ab_W} : ab_Run ab_mt 220 873 ls st w = ab_Run ab_mt 220 874 ls (.int (nI 1) :: st) w := E_push (n := 1) rfl
set_option maxRecDepth 30000 in
theorem e_220_874 {ls : ab_L} {st : List Value} {w : ab_W} {x y : Int32} : ab_Run ab_mt 220 874 ls (.int y :: .int x :: st) w = ab_Run ab_mt 220 875 ls (.int (x + y) :: st) w := E_ib (f := fun x y => x + y) rfl
set_option maxRecDepth 30000 in
theorem e_220_875 {ls : ab_L} {st : List Value} {w : ab_W} {a : Nat} {i : Int32} (h : ab_inI i (w.2 a) = true) : ab_Run ab_mt 220 875 ls (.int i :: .ref a :: st) w = ab_Run ab_mt 220 876 ls (.int (ab_aI i.toNatClampNeg (w.2 a)) :: st) w := E_iald rfl h
set_option maxRecDepth 30000 in
theorem e_220_876 {ls : ab_L} {st : List Value} {w : ab_W} {v0 v1 : Value} (h1 : ab_recv ab_mt 154 [v0, v1] w.2 = true) (h8 : ab_w8 st = true) : ab_Run ab_mt 220 876 ls (v1 :: v0 :: st) w = ab_aft 154 220 876 ls st (ab_Cl 154 [v0, v1] w) := E_call2 rfl h1 h8
set_option maxRecDepth 30000 in
theorem e_220_879 {ls : ab_L} {st : List Value} {w : ab_W} {x : Int32} : ab_Run ab_mt 220 879 ls (.int x :: st) w = ab_Run ab_mt 220 881 (ab_l1 ls 6 (.int x)) st w := E_stori (n := 2) rfl
set_option maxRecDepth 30000 in
theorem e_220_881 {ls : ab_L} {st : List Value} {w : ab_W} (h : ab_isR (ls 2) = true) : ab_Run ab_mt 220 881 ls st w = ab_Run ab_mt 220 882 ls (ab_gv (ls 2) :: st) w := E_loadr (n := 1) rfl h
set_option maxRecDepth 30000 in
theorem e_220_882 {ls : ab_L} {st : List Value} {w : ab_W} {v0 : Value} (h1 : ab_recv ab_mt 106 [v0] w.2 = true) (h8 : ab_w8 st = true) : ab_Run ab_mt 220 882 ls (v0 :: st) w = ab_aft 106 220 882 ls st (ab_Cl 106 [v0] w) := E_call1 rfl h1 h8
set_option maxRecDepth 30000 in
theorem e_220_885 {ls : ab_L} {st : List Value} {w : ab_W} (h : ab_isI (ls 5) = true) : ab_Run ab_mt 220 885 ls st w = ab_Run ab_mt 220 887 ls (ab_gv (ls 5) :: st) w := E_loadi (n := 2) rfl h
set_option maxRecDepth 30000 in
theorem e_220_887 {ls : ab_L} {st : List Value} {w : ab_W} {x y : Int32} : ab_Run ab_mt 220 887 ls (.int y :: .int x :: st) w = if x = y then ab_Run ab_mt 220 892 ls st w else ab_Run ab_mt 220 890 ls st w := E_ic_eq rfl
set_option maxRecDepth 30000 in
theorem e_220_890 {ls : ab_L} {st : List Value} {w : ab_W} : ab_Run ab_mt 220 890 ls st w = ab_Run ab_mt 220 891 ls (.int (nI 0) :: st) w := E_push (n := 1) rfl
set_option maxRecDepth 30000 in
theorem e_220_891 {ls : ab_L} {w : ab_W} {x : Int32} (h : ab_fitr 2 (.int x) = true) : ab_Run ab_mt 220 891 ls [.int x] w = some (.inl (some (.int x)), w) := E_retz rfl h
set_option maxRecDepth 30000 in
theorem e_220_892 {ls : ab_L} {st : List Value} {w : ab_W} (h : ab_isI (ls 5) = true) : ab_Run ab_mt 220 892 ls st w = ab_Run ab_mt 220 894 ls (ab_gv (ls 5) :: st) w := E_loadi (n := 2) rfl h
set_option maxRecDepth 30000 in
theorem e_220_894 {ls : ab_L} {st : List Value} {w : ab_W} {x : Int32} : ab_Run ab_mt 220 894 ls (.int x :: st) w = if x = 0 then ab_Run ab_mt 220 897 ls st w else ab_Run ab_mt 220 909 ls st w := E_if_ne rfl
set_option maxRecDepth 30000 in
theorem e_220_897 {ls : ab_L} {st : List Value} {w : ab_W} (h : ab_isR (ls 3) = true) : ab_Run ab_mt 220 897 ls st w = ab_Run ab_mt 220 898 ls (ab_gv (ls 3) :: st) w := E_loadr (n := 1) rfl h
set_option maxRecDepth 30000 in
theorem e_220_898 {ls : ab_L} {st : List Value} {w : ab_W} : ab_Run ab_mt 220 898 ls st w = ab_Run ab_mt 220 899 ls (.int (nI 0) :: st) w := E_push (n := 1) rfl
set_option maxRecDepth 30000 in
theorem e_220_899 {ls : ab_L} {st : List Value} {w : ab_W} {a : Nat} {i : Int32} (h : ab_inL i (w.2 a) = true) : ab_Run ab_mt 220 899 ls (.int i :: .ref a :: st) w = ab_Run ab_mt 220 900 ls (.long (ab_aL i.toNatClampNeg (w.2 a)) :: st) w := E_lald rfl h
set_option maxRecDepth 30000 in
theorem e_220_900 {ls : ab_L} {st : List Value} {w : ab_W} (h : ab_isI (ls 6) = true) : ab_Run ab_mt 220 900 ls st w = ab_Run ab_mt 220 902 ls (ab_gv (ls 6) :: st) w := E_loadi (n := 2) rfl h
set_option maxRecDepth 30000 in
theorem e_220_902 {ls : ab_L} {st : List Value} {w : ab_W} {x : Int32} : ab_Run ab_mt 220 902 ls (.int x :: st) w = ab_Run ab_mt 220 903 ls (.long x.toInt64 :: st) w := E_i2l rfl
set_option maxRecDepth 30000 in
theorem e_220_903 {ls : ab_L} {st : List Value} {w : ab_W} {x y : Int64} : ab_Run ab_mt 220 903 ls (.long y :: .long x :: st) w = ab_Run ab_mt 220 904 ls (.int (lg_cmp x y) :: st) w := E_lcmp rfl
set_option maxRecDepth 30000 in
theorem e_220_904 {ls : ab_L} {st : List Value} {w : ab_W} {x : Int32} : ab_Run ab_mt 220 904 ls (.int x :: st) w = if x = 0 then ab_Run ab_mt 220 909 ls st w else ab_Run ab_mt 220 907 ls st w := E_if_eq rfl
set_option maxRecDepth 30000 in
theorem e_220_907 {ls : ab_L} {st : List Value} {w : ab_W} : ab_Run ab_mt 220 907 ls st w = ab_Run ab_mt 220 908 ls (.int (nI 0) :: st) w := E_push (n := 1) rfl
set_option maxRecDepth 30000 in
theorem e_220_908 {ls : ab_L} {w : ab_W} {x : Int32} (h : ab_fitr 2 (.int x) = true) : ab_Run ab_mt 220 908 ls [.int x] w = some (.inl (some (.int x)), w) := E_retz rfl h
set_option maxRecDepth 30000 in
theorem e_220_909 {ls : ab_L} {st : List Value} {w : ab_W} : ab_Run ab_mt 220 909 ls st w = ab_Run ab_mt 220 2053 ls st w := E_goto rfl
set_option maxRecDepth 30000 in
theorem e_220_912 {ls : ab_L} {st : List Value} {w : ab_W} (h : ab_isR (ls 1) = true) : ab_Run ab_mt 220 912 ls st w = ab_Run ab_mt 220 913 ls (ab_gv (ls 1) :: st) w := E_loadr (n := 1) rfl h
set_option maxRecDepth 30000 in
theorem e_220_913 {ls : ab_L} {st : List Value} {w : ab_W} (h : ab_isR (ls 0) = true) : ab_Run ab_mt 220 913 ls st w = ab_Run ab_mt 220 914 ls (ab_gv (ls 0) :: st) w := E_loadr (n := 1) rfl h
set_option maxRecDepth 30000 in
theorem e_220_914 {ls : ab_L} {st : List Value} {w : ab_W} (h : ab_isI (ls 4) = true) : ab_Run ab_mt 220 914 ls st w = ab_Run ab_mt 220 916 ls (ab_gv (ls 4) :: st) w := E_loadi (n := 2) rfl h
set_option maxRecDepth 30000 in
theorem e_220_916 {ls : ab_L} {st : List Value} {w : ab_W} : ab_Run ab_mt 220 916 ls st w = ab_Run ab_mt 220 917 ls (.int (nI 1) :: st) w := E_push (n := 1) rfl
set_option maxRecDepth 30000 in
theorem e_220_917 {ls : ab_L} {st : List Value} {w : ab_W} {x y : Int32} : ab_Run ab_mt 220 917 ls (.int y :: .int x :: st) w = ab_Run ab_mt 220 918 ls (.int (x + y) :: st) w := E_ib (f := fun x y => x + y) rfl
set_option maxRecDepth 30000 in
theorem e_220_918 {ls : ab_L} {st : List Value} {w : ab_W} {a : Nat} {i : Int32} (h : ab_inI i (w.2 a) = true) : ab_Run ab_mt 220 918 ls (.int i :: .ref a :: st) w = ab_Run ab_mt 220 919 ls (.int (ab_aI i.toNatClampNeg (w.2 a)) :: st) w := E_iald rfl h
set_option maxRecDepth 30000 in
theorem e_220_919 {ls : ab_L} {st : List Value} {w : ab_W} (h : ab_isR (ls 3) = true) : ab_Run ab_mt 220 919 ls st w = ab_Run ab_mt 220 920 ls (ab_gv (ls 3) :: st) w := E_loadr (n := 1) rfl h
set_option maxRecDepth 30000 in
theorem e_220_920 {ls : ab_L} {st : List Value} {w : ab_W} {v0 v1 v2 : Value} (h1 : ab_recv ab_mt 205 [v0, v1, v2] w.2 = true) (h8 : ab_w8 st = true) : ab_Run ab_mt 220 920 ls (v2 :: v1 :: v0 :: st) w = ab_aft 205 220 920 ls st (ab_Cl 205 [v0, v1, v2] w) := E_call3 rfl h1 h8
set_option maxRecDepth 30000 in
theorem e_220_923 {ls : ab_L} {st : List Value} {w : ab_W} {x : Int32} : ab_Run ab_mt 220 923 ls (.int x :: st) w = ab_Run ab_mt 220 925 (ab_l1 ls 5 (.int x)) st w := E_stori (n := 2) rfl
set_option maxRecDepth 30000 in
theorem e_220_925 {ls : ab_L} {st : List Value} {w : ab_W} (h : ab_isR (ls 2) = true) : ab_Run ab_mt 220 925 ls st w = ab_Run ab_mt 220 926 ls (ab_gv (ls 2) :: st) w := E_loadr (n := 1) rfl h
set_option maxRecDepth 30000 in
theorem e_220_926 {ls : ab_L} {st : List Value} {w : ab_W} (h : ab_isR (ls 0) = true) : ab_Run ab_mt 220 926 ls st w = ab_Run ab_mt 220 927 ls (ab_gv (ls 0) :: st) w := E_loadr (n := 1) rfl h
set_option maxRecDepth 30000 in
theorem e_220_927 {ls : ab_L} {st : List Value} {w : ab_W} (h : ab_isI (ls 4) = true) : ab_Run ab_mt 220 927 ls st w = ab_Run ab_mt 220 929 ls (ab_gv (ls 4) :: st) w := E_loadi (n := 2) rfl h
set_option maxRecDepth 30000 in
theorem e_220_929 {ls : ab_L} {st : List Value} {w : ab_W} : ab_Run ab_mt 220 929 ls st w = ab_Run ab_mt 220 930 ls (.int (nI 1) :: st) w := E_push (n := 1) rfl
set_option maxRecDepth 30000 in
theorem e_220_930 {ls : ab_L} {st : List Value} {w : ab_W} {x y : Int32} : ab_Run ab_mt 220 930 ls (.int y :: .int x :: st) w = ab_Run ab_mt 220 931 ls (.int (x + y) :: st) w := E_ib (f := fun x y => x + y) rfl
set_option maxRecDepth 30000 in
theorem e_220_931 {ls : ab_L} {st : List Value} {w : ab_W} {a : Nat} {i : Int32} (h : ab_inI i (w.2 a) = true) : ab_Run ab_mt 220 931 ls (.int i :: .ref a :: st) w = ab_Run ab_mt 220 932 ls (.int (ab_aI i.toNatClampNeg (w.2 a)) :: st) w := E_iald rfl h
set_option maxRecDepth 30000 in
theorem e_220_932 {ls : ab_L} {st : List Value} {w : ab_W} {v0 v1 : Value} (h1 : ab_recv ab_mt 148 [v0, v1] w.2 = true) (h8 : ab_w8 st = true) : ab_Run ab_mt 220 932 ls (v1 :: v0 :: st) w = ab_aft 148 220 932 ls st (ab_Cl 148 [v0, v1] w) := E_call2 rfl h1 h8
set_option maxRecDepth 30000 in
theorem e_220_935 {ls : ab_L} {st : List Value} {w : ab_W} {x : Int32} : ab_Run ab_mt 220 935 ls (.int x :: st) w = ab_Run ab_mt 220 937 (ab_l1 ls 6 (.int x)) st w := E_stori (n := 2) rfl
set_option maxRecDepth 30000 in
theorem e_220_937 {ls : ab_L} {st : List Value} {w : ab_W} (h : ab_isR (ls 2) = true) : ab_Run ab_mt 220 937 ls st w = ab_Run ab_mt 220 938 ls (ab_gv (ls 2) :: st) w := E_loadr (n := 1) rfl h
set_option maxRecDepth 30000 in
theorem e_220_938 {ls : ab_L} {st : List Value} {w : ab_W} {v0 : Value} (h1 : ab_recv ab_mt 106 [v0] w.2 = true) (h8 : ab_w8 st = true) : ab_Run ab_mt 220 938 ls (v0 :: st) w = ab_aft 106 220 938 ls st (ab_Cl 106 [v0] w) := E_call1 rfl h1 h8
set_option maxRecDepth 30000 in
theorem e_220_941 {ls : ab_L} {st : List Value} {w : ab_W} (h : ab_isI (ls 5) = true) : ab_Run ab_mt 220 941 ls st w = ab_Run ab_mt 220 943 ls (ab_gv (ls 5) :: st) w := E_loadi (n := 2) rfl h
set_option maxRecDepth 30000 in
theorem e_220_943 {ls : ab_L} {st : List Value} {w : ab_W} {x y : Int32} : ab_Run ab_mt 220 943 ls (.int y :: .int x :: st) w = if x = y then ab_Run ab_mt 220 948 ls st w else ab_Run ab_mt 220 946 ls st w := E_ic_eq rfl
set_option maxRecDepth 30000 in
theorem e_220_946 {ls : ab_L} {st : List Value} {w : ab_W} : ab_Run ab_mt 220 946 ls st w = ab_Run ab_mt 220 947 ls (.int (nI 0) :: st) w := E_push (n := 1) rfl
set_option maxRecDepth 30000 in
theorem e_220_947 {ls : ab_L} {w : ab_W} {x : Int32} (h : ab_fitr 2 (.int x) = true) : ab_Run ab_mt 220 947 ls [.int x] w = some (.inl (some (.int x)), w) := E_retz rfl h
set_option maxRecDepth 30000 in
theorem e_220_948 {ls : ab_L} {st : List Value} {w : ab_W} (h : ab_isI (ls 5) = true) : ab_Run ab_mt 220 948 ls st w = ab_Run ab_mt 220 950 ls (ab_gv (ls 5) :: st) w := E_loadi (n := 2) rfl h
set_option maxRecDepth 30000 in
theorem e_220_950 {ls : ab_L} {st : List Value} {w : ab_W} {x : Int32} : ab_Run ab_mt 220 950 ls (.int x :: st) w = if x = 0 then ab_Run ab_mt 220 953 ls st w else ab_Run ab_mt 220 965 ls st w := E_if_ne rfl
set_option maxRecDepth 30000 in
theorem e_220_953 {ls : ab_L} {st : List Value} {w : ab_W} (h : ab_isR (ls 3) = true) : ab_Run ab_mt 220 953 ls st w = ab_Run ab_mt 220 954 ls (ab_gv (ls 3) :: st) w := E_loadr (n := 1) rfl h
set_option maxRecDepth 30000 in
theorem e_220_954 {ls : ab_L} {st : List Value} {w : ab_W} : ab_Run ab_mt 220 954 ls st w = ab_Run ab_mt 220 955 ls (.int (nI 0) :: st) w := E_push (n := 1) rfl
set_option maxRecDepth 30000 in
theorem e_220_955 {ls : ab_L} {st : List Value} {w : ab_W} {a : Nat} {i : Int32} (h : ab_inL i (w.2 a) = true) : ab_Run ab_mt 220 955 ls (.int i :: .ref a :: st) w = ab_Run ab_mt 220 956 ls (.long (ab_aL i.toNatClampNeg (w.2 a)) :: st) w := E_lald rfl h
set_option maxRecDepth 30000 in
theorem e_220_956 {ls : ab_L} {st : List Value} {w : ab_W} (h : ab_isI (ls 6) = true) : ab_Run ab_mt 220 956 ls st w = ab_Run ab_mt 220 958 ls (ab_gv (ls 6) :: st) w := E_loadi (n := 2) rfl h
set_option maxRecDepth 30000 in
theorem e_220_958 {ls : ab_L} {st : List Value} {w : ab_W} {x : Int32} : ab_Run ab_mt 220 958 ls (.int x :: st) w = ab_Run ab_mt 220 959 ls (.long x.toInt64 :: st) w := E_i2l rfl
set_option maxRecDepth 30000 in
theorem e_220_959 {ls : ab_L} {st : List Value} {w : ab_W} {x y : Int64} : ab_Run ab_mt 220 959 ls (.long y :: .long x :: st) w = ab_Run ab_mt 220 960 ls (.int (lg_cmp x y) :: st) w := E_lcmp rfl
set_option maxRecDepth 30000 in
theorem e_220_960 {ls : ab_L} {st : List Value} {w : ab_W} {x : Int32} : ab_Run ab_mt 220 960 ls (.int x :: st) w = if x = 0 then ab_Run ab_mt 220 965 ls st w else ab_Run ab_mt 220 963 ls st w := E_if_eq rfl
set_option maxRecDepth 30000 in
theorem e_220_963 {ls : ab_L} {st : List Value} {w : ab_W} : ab_Run ab_mt 220 963 ls st w = ab_Run ab_mt 220 964 ls (.int (nI 0) :: st) w := E_push (n := 1) rfl
set_option maxRecDepth 30000 in
theorem e_220_964 {ls : ab_L} {w : ab_W} {x : Int32} (h : ab_fitr 2 (.int x) = true) : ab_Run ab_mt 220 964 ls [.int x] w = some (.inl (some (.int x)), w) := E_retz rfl h
set_option maxRecDepth 30000 in
theorem e_220_965 {ls : ab_L} {st : List Value} {w : ab_W} : ab_Run ab_mt 220 965 ls st w = ab_Run ab_mt 220 2053 ls st w := E_goto rfl
set_option maxRecDepth 30000 in
theorem e_220_968 {ls : ab_L} {st : List Value} {w : ab_W} (h : ab_isR (ls 1) = true) : ab_Run ab_mt 220 968 ls st w = ab_Run ab_mt 220 969 ls (ab_gv (ls 1) :: st) w := E_loadr (n := 1) rfl h
set_option maxRecDepth 30000 in
theorem e_220_969 {ls : ab_L} {st : List Value} {w : ab_W} {v0 : Value} (h1 : ab_recv ab_mt 14 [v0] w.2 = true) (h8 : ab_w8 st = true) : ab_Run ab_mt 220 969 ls (v0 :: st) w = ab_aft 14 220 969 ls st (ab_Cl 14 [v0] w) := E_call1 rfl h1 h8
set_option maxRecDepth 30000 in
theorem e_220_972 {ls : ab_L} {st : List Value} {w : ab_W} (h : ab_isR (ls 2) = true) : ab_Run ab_mt 220 972 ls st w = ab_Run ab_mt 220 973 ls (ab_gv (ls 2) :: st) w := E_loadr (n := 1) rfl h
set_option maxRecDepth 30000 in
theorem e_220_973 {ls : ab_L} {st : List Value} {w : ab_W} {v0 : Value} (h1 : ab_recv ab_mt 149 [v0] w.2 = true) (h8 : ab_w8 st = true) : ab_Run ab_mt 220 973 ls (v0 :: st) w = ab_aft 149 220 973 ls st (ab_Cl 149 [v0] w) := E_call1 rfl h1 h8
set_option maxRecDepth 30000 in
theorem e_220_976 {ls : ab_L} {st : List Value} {w : ab_W} {x y : Int32} : ab_Run ab_mt 220 976 ls (.int y :: .int x :: st) w = if x = y then ab_Run ab_mt 220 2053 ls st w else ab_Run ab_mt 220 979 ls st w := E_ic_eq rfl
set_option maxRecDepth 30000 in
theorem e_220_979 {ls : ab_L} {st : List Value} {w : ab_W} : ab_Run ab_mt 220 979 ls st w = ab_Run ab_mt 220 980 ls (.int (nI 0) :: st) w := E_push (n := 1) rfl
set_option maxRecDepth 30000 in
theorem e_220_980 {ls : ab_L} {w : ab_W} {x : Int32} (h : ab_fitr 2 (.int x) = true) : ab_Run ab_mt 220 980 ls [.int x] w = some (.inl (some (.int x)), w) := E_retz rfl h
set_option maxRecDepth 30000 in
theorem e_220_981 {ls : ab_L} {st : List Value} {w : ab_W} (h : ab_isR (ls 1) = true) : ab_Run ab_mt 220 981 ls st w = ab_Run ab_mt 220 982 ls (ab_gv (ls 1) :: st) w := E_loadr (n := 1) rfl h
set_option maxRecDepth 30000 in
theorem e_220_982 {ls : ab_L} {st : List Value} {w : ab_W} {v0 : Value} (h1 : ab_recv ab_mt 15 [v0] w.2 = true) (h8 : ab_w8 st = true) : ab_Run ab_mt 220 982 ls (v0 :: st) w = ab_aft 15 220 982 ls st (ab_Cl 15 [v0] w) := E_call1 rfl h1 h8
set_option maxRecDepth 30000 in
theorem e_220_985 {ls : ab_L} {st : List Value} {w : ab_W} (h : ab_isR (ls 2) = true) : ab_Run ab_mt 220 985 ls st w = ab_Run ab_mt 220 986 ls (ab_gv (ls 2) :: st) w := E_loadr (n := 1) rfl h
set_option maxRecDepth 30000 in
theorem e_220_986 {ls : ab_L} {st : List Value} {w : ab_W} {v0 : Value} (h1 : ab_recv ab_mt 147 [v0] w.2 = true) (h8 : ab_w8 st = true) : ab_Run ab_mt 220 986 ls (v0 :: st) w = ab_aft 147 220 986 ls st (ab_Cl 147 [v0] w) := E_call1 rfl h1 h8
set_option maxRecDepth 30000 in
theorem e_220_989 {ls : ab_L} {st : List Value} {w : ab_W} {x y : Int32} : ab_Run ab_mt 220 989 ls (.int y :: .int x :: st) w = if x = y then ab_Run ab_mt 220 2053 ls st w else ab_Run ab_mt 220 992 ls st w := E_ic_eq rfl
set_option maxRecDepth 30000 in
theorem e_220_992 {ls : ab_L} {st : List Value} {w : ab_W} : ab_Run ab_mt 220 992 ls st w = ab_Run ab_mt 220 993 ls (.int (nI 0) :: st) w := E_push (n := 1) rfl
set_option maxRecDepth 30000 in
theorem e_220_993 {ls : ab_L} {w : ab_W} {x : Int32} (h : ab_fitr 2 (.int x) = true) : ab_Run ab_mt 220 993 ls [.int x] w = some (.inl (some (.int x)), w) := E_retz rfl h
set_option maxRecDepth 30000 in
theorem e_220_994 {ls : ab_L} {st : List Value} {w : ab_W} (h : ab_isR (ls 1) = true) : ab_Run ab_mt 220 994 ls st w = ab_Run ab_mt 220 995 ls (ab_gv (ls 1) :: st) w := E_loadr (n := 1) rfl h
set_option maxRecDepth 30000 in
theorem e_220_995 {ls : ab_L} {st : List Value} {w : ab_W} (h : ab_isR (ls 0) = true) : ab_Run ab_mt 220 995 ls st w = ab_Run ab_mt 220 996 ls (ab_gv (ls 0) :: st) w := E_loadr (n := 1) rfl h
set_option maxRecDepth 30000 in
theorem e_220_996 {ls : ab_L} {st : List Value} {w : ab_W} (h : ab_isI (ls 4) = true) : ab_Run ab_mt 220 996 ls st w = ab_Run ab_mt 220 998 ls (ab_gv (ls 4) :: st) w := E_loadi (n := 2) rfl h
set_option maxRecDepth 30000 in
theorem e_220_998 {ls : ab_L} {st : List Value} {w : ab_W} : ab_Run ab_mt 220 998 ls st w = ab_Run ab_mt 220 999 ls (.int (nI 1) :: st) w := E_push (n := 1) rfl
set_option maxRecDepth 30000 in
theorem e_220_999 {ls : ab_L} {st : List Value} {w : ab_W} {x y : Int32} : ab_Run ab_mt 220 999 ls (.int y :: .int x :: st) w = ab_Run ab_mt 220 1000 ls (.int (x + y) :: st) w := E_ib (f := fun x y => x + y) rfl
set_option maxRecDepth 30000 in
theorem e_220_1000 {ls : ab_L} {st : List Value} {w : ab_W} {a : Nat} {i : Int32} (h : ab_inI i (w.2 a) = true) : ab_Run ab_mt 220 1000 ls (.int i :: .ref a :: st) w = ab_Run ab_mt 220 1001 ls (.int (ab_aI i.toNatClampNeg (w.2 a)) :: st) w := E_iald rfl h
set_option maxRecDepth 30000 in
theorem e_220_1001 {ls : ab_L} {st : List Value} {w : ab_W} (h : ab_isR (ls 0) = true) : ab_Run ab_mt 220 1001 ls st w = ab_Run ab_mt 220 1002 ls (ab_gv (ls 0) :: st) w := E_loadr (n := 1) rfl h
set_option maxRecDepth 30000 in
theorem e_220_1002 {ls : ab_L} {st : List Value} {w : ab_W} (h : ab_isI (ls 4) = true) : ab_Run ab_mt 220 1002 ls st w = ab_Run ab_mt 220 1004 ls (ab_gv (ls 4) :: st) w := E_loadi (n := 2) rfl h
set_option maxRecDepth 30000 in
theorem e_220_1004 {ls : ab_L} {st : List Value} {w : ab_W} : ab_Run ab_mt 220 1004 ls st w = ab_Run ab_mt 220 1005 ls (.int (nI 2) :: st) w := E_push (n := 1) rfl
set_option maxRecDepth 30000 in
theorem e_220_1005 {ls : ab_L} {st : List Value} {w : ab_W} {x y : Int32} : ab_Run ab_mt 220 1005 ls (.int y :: .int x :: st) w = ab_Run ab_mt 220 1006 ls (.int (x + y) :: st) w := E_ib (f := fun x y => x + y) rfl
set_option maxRecDepth 30000 in
theorem e_220_1006 {ls : ab_L} {st : List Value} {w : ab_W} {a : Nat} {i : Int32} (h : ab_inI i (w.2 a) = true) : ab_Run ab_mt 220 1006 ls (.int i :: .ref a :: st) w = ab_Run ab_mt 220 1007 ls (.int (ab_aI i.toNatClampNeg (w.2 a)) :: st) w := E_iald rfl h
set_option maxRecDepth 30000 in
theorem e_220_1007 {ls : ab_L} {st : List Value} {w : ab_W} (h : ab_isR (ls 0) = true) : ab_Run ab_mt 220 1007 ls st w = ab_Run ab_mt 220 1008 ls (ab_gv (ls 0) :: st) w := E_loadr (n := 1) rfl h
set_option maxRecDepth 30000 in
theorem e_220_1008 {ls : ab_L} {st : List Value} {w : ab_W} (h : ab_isI (ls 4) = true) : ab_Run ab_mt 220 1008 ls st w = ab_Run ab_mt 220 1010 ls (ab_gv (ls 4) :: st) w := E_loadi (n := 2) rfl h
set_option maxRecDepth 30000 in
theorem e_220_1010 {ls : ab_L} {st : List Value} {w : ab_W} : ab_Run ab_mt 220 1010 ls st w = ab_Run ab_mt 220 1011 ls (.int (nI 3) :: st) w := E_push (n := 1) rfl
set_option maxRecDepth 30000 in
theorem e_220_1011 {ls : ab_L} {st : List Value} {w : ab_W} {x y : Int32} : ab_Run ab_mt 220 1011 ls (.int y :: .int x :: st) w = ab_Run ab_mt 220 1012 ls (.int (x + y) :: st) w := E_ib (f := fun x y => x + y) rfl
set_option maxRecDepth 30000 in
theorem e_220_1012 {ls : ab_L} {st : List Value} {w : ab_W} {a : Nat} {i : Int32} (h : ab_inI i (w.2 a) = true) : ab_Run ab_mt 220 1012 ls (.int i :: .ref a :: st) w = ab_Run ab_mt 220 1013 ls (.int (ab_aI i.toNatClampNeg (w.2 a)) :: st) w := E_iald rfl h
set_option maxRecDepth 30000 in
theorem e_220_1013 {ls : ab_L} {st : List Value} {w : ab_W} (h : ab_isR (ls 3) = true) : ab_Run ab_mt 220 1013 ls st w = ab_Run ab_mt 220 1014 ls (ab_gv (ls 3) :: st) w := E_loadr (n := 1) rfl h
set_option maxRecDepth 30000 in
theorem e_220_1014 {ls : ab_L} {st : List Value} {w : ab_W} {v0 v1 v2 v3 v4 : Value} (h1 : ab_recv ab_mt 206 [v0, v1, v2, v3, v4] w.2 = true) (h8 : ab_w8 st = true) : ab_Run ab_mt 220 1014 ls (v4 :: v3 :: v2 :: v1 :: v0 :: st) w = ab_aft 206 220 1014 ls st (ab_Cl 206 [v0, v1, v2, v3, v4] w) := E_call5 rfl h1 h8
set_option maxRecDepth 30000 in
theorem e_220_1017 {ls : ab_L} {st : List Value} {w : ab_W} {x : Int32} : ab_Run ab_mt 220 1017 ls (.int x :: st) w = ab_Run ab_mt 220 1019 (ab_l1 ls 5 (.int x)) st w := E_stori (n := 2) rfl
set_option maxRecDepth 30000 in
theorem e_220_1019 {ls : ab_L} {st : List Value} {w : ab_W} (h : ab_isR (ls 2) = true) : ab_Run ab_mt 220 1019 ls st w = ab_Run ab_mt 220 1020 ls (ab_gv (ls 2) :: st) w := E_loadr (n := 1) rfl h
set_option maxRecDepth 30000 in
theorem e_220_1020 {ls : ab_L} {st : List Value} {w : ab_W} (h : ab_isR (ls 0) = true) : ab_Run ab_mt 220 1020 ls st w = ab_Run ab_mt 220 1021 ls (ab_gv (ls 0) :: st) w := E_loadr (n := 1) rfl h
set_option maxRecDepth 30000 in
theorem e_220_1021 {ls : ab_L} {st : List Value} {w : ab_W} (h : ab_isI (ls 4) = true) : ab_Run ab_mt 220 1021 ls st w = ab_Run ab_mt 220 1023 ls (ab_gv (ls 4) :: st) w := E_loadi (n := 2) rfl h
set_option maxRecDepth 30000 in
theorem e_220_1023 {ls : ab_L} {st : List Value} {w : ab_W} : ab_Run ab_mt 220 1023 ls st w = ab_Run ab_mt 220 1024 ls (.int (nI 1) :: st) w := E_push (n := 1) rfl
set_option maxRecDepth 30000 in
theorem e_220_1024 {ls : ab_L} {st : List Value} {w : ab_W} {x y : Int32} : ab_Run ab_mt 220 1024 ls (.int y :: .int x :: st) w = ab_Run ab_mt 220 1025 ls (.int (x + y) :: st) w := E_ib (f := fun x y => x + y) rfl
set_option maxRecDepth 30000 in
theorem e_220_1025 {ls : ab_L} {st : List Value} {w : ab_W} {a : Nat} {i : Int32} (h : ab_inI i (w.2 a) = true) : ab_Run ab_mt 220 1025 ls (.int i :: .ref a :: st) w = ab_Run ab_mt 220 1026 ls (.int (ab_aI i.toNatClampNeg (w.2 a)) :: st) w := E_iald rfl h
set_option maxRecDepth 30000 in
theorem e_220_1026 {ls : ab_L} {st : List Value} {w : ab_W} (h : ab_isR (ls 0) = true) : ab_Run ab_mt 220 1026 ls st w = ab_Run ab_mt 220 1027 ls (ab_gv (ls 0) :: st) w := E_loadr (n := 1) rfl h
set_option maxRecDepth 30000 in
theorem e_220_1027 {ls : ab_L} {st : List Value} {w : ab_W} (h : ab_isI (ls 4) = true) : ab_Run ab_mt 220 1027 ls st w = ab_Run ab_mt 220 1029 ls (ab_gv (ls 4) :: st) w := E_loadi (n := 2) rfl h
set_option maxRecDepth 30000 in
theorem e_220_1029 {ls : ab_L} {st : List Value} {w : ab_W} : ab_Run ab_mt 220 1029 ls st w = ab_Run ab_mt 220 1030 ls (.int (nI 2) :: st) w := E_push (n := 1) rfl
set_option maxRecDepth 30000 in
theorem e_220_1030 {ls : ab_L} {st : List Value} {w : ab_W} {x y : Int32} : ab_Run ab_mt 220 1030 ls (.int y :: .int x :: st) w = ab_Run ab_mt 220 1031 ls (.int (x + y) :: st) w := E_ib (f := fun x y => x + y) rfl
set_option maxRecDepth 30000 in
theorem e_220_1031 {ls : ab_L} {st : List Value} {w : ab_W} {a : Nat} {i : Int32} (h : ab_inI i (w.2 a) = true) : ab_Run ab_mt 220 1031 ls (.int i :: .ref a :: st) w = ab_Run ab_mt 220 1032 ls (.int (ab_aI i.toNatClampNeg (w.2 a)) :: st) w := E_iald rfl h
set_option maxRecDepth 30000 in
theorem e_220_1032 {ls : ab_L} {st : List Value} {w : ab_W} (h : ab_isR (ls 0) = true) : ab_Run ab_mt 220 1032 ls st w = ab_Run ab_mt 220 1033 ls (ab_gv (ls 0) :: st) w := E_loadr (n := 1) rfl h
set_option maxRecDepth 30000 in
theorem e_220_1033 {ls : ab_L} {st : List Value} {w : ab_W} (h : ab_isI (ls 4) = true) : ab_Run ab_mt 220 1033 ls st w = ab_Run ab_mt 220 1035 ls (ab_gv (ls 4) :: st) w := E_loadi (n := 2) rfl h
set_option maxRecDepth 30000 in
theorem e_220_1035 {ls : ab_L} {st : List Value} {w : ab_W} : ab_Run ab_mt 220 1035 ls st w = ab_Run ab_mt 220 1036 ls (.int (nI 3) :: st) w := E_push (n := 1) rfl
set_option maxRecDepth 30000 in
theorem e_220_1036 {ls : ab_L} {st : List Value} {w : ab_W} {x y : Int32} : ab_Run ab_mt 220 1036 ls (.int y :: .int x :: st) w = ab_Run ab_mt 220 1037 ls (.int (x + y) :: st) w := E_ib (f := fun x y => x + y) rfl
set_option maxRecDepth 30000 in
theorem e_220_1037 {ls : ab_L} {st : List Value} {w : ab_W} {a : Nat} {i : Int32} (h : ab_inI i (w.2 a) = true) : ab_Run ab_mt 220 1037 ls (.int i :: .ref a :: st) w = ab_Run ab_mt 220 1038 ls (.int (ab_aI i.toNatClampNeg (w.2 a)) :: st) w := E_iald rfl h
set_option maxRecDepth 30000 in
theorem e_220_1038 {ls : ab_L} {st : List Value} {w : ab_W} {v0 v1 v2 v3 : Value} (h1 : ab_recv ab_mt 159 [v0, v1, v2, v3] w.2 = true) (h8 : ab_w8 st = true) : ab_Run ab_mt 220 1038 ls (v3 :: v2 :: v1 :: v0 :: st) w = ab_aft 159 220 1038 ls st (ab_Cl 159 [v0, v1, v2, v3] w) := E_call4 rfl h1 h8
set_option maxRecDepth 30000 in
theorem e_220_1041 {ls : ab_L} {st : List Value} {w : ab_W} {x : Int64} : ab_Run ab_mt 220 1041 ls (.long x :: st) w = ab_Run ab_mt 220 1043 (ab_l2 ls 6 (.long x)) st w := E_storl (n := 2) rfl
set_option maxRecDepth 30000 in
theorem e_220_1043 {ls : ab_L} {st : List Value} {w : ab_W} (h : ab_isR (ls 2) = true) : ab_Run ab_mt 220 1043 ls st w = ab_Run ab_mt 220 1044 ls (ab_gv (ls 2) :: st) w := E_loadr (n := 1) rfl h
set_option maxRecDepth 30000 in
theorem e_220_1044 {ls : ab_L} {st : List Value} {w : ab_W} {v0 : Value} (h1 : ab_recv ab_mt 106 [v0] w.2 = true) (h8 : ab_w8 st = true) : ab_Run ab_mt 220 1044 ls (v0 :: st) w = ab_aft 106 220 1044 ls st (ab_Cl 106 [v0] w) := E_call1 rfl h1 h8
set_option maxRecDepth 30000 in
theorem e_220_1047 {ls : ab_L} {st : List Value} {w : ab_W} (h : ab_isI (ls 5) = true) : ab_Run ab_mt 220 1047 ls st w = ab_Run ab_mt 220 1049 ls (ab_gv (ls 5) :: st) w := E_loadi (n := 2) rfl h
set_option maxRecDepth 30000 in
theorem e_220_1049 {ls : ab_L} {st : List Value} {w : ab_W} {x y : Int32} : ab_Run ab_mt 220 1049 ls (.int y :: .int x :: st) w = if x = y then ab_Run ab_mt 220 1054 ls st w else ab_Run ab_mt 220 1052 ls st w := E_ic_eq rfl
set_option maxRecDepth 30000 in
theorem e_220_1052 {ls : ab_L} {st : List Value} {w : ab_W} : ab_Run ab_mt 220 1052 ls st w = ab_Run ab_mt 220 1053 ls (.int (nI 0) :: st) w := E_push (n := 1) rfl
set_option maxRecDepth 30000 in
theorem e_220_1053 {ls : ab_L} {w : ab_W} {x : Int32} (h : ab_fitr 2 (.int x) = true) : ab_Run ab_mt 220 1053 ls [.int x] w = some (.inl (some (.int x)), w) := E_retz rfl h
set_option maxRecDepth 30000 in
theorem e_220_1054 {ls : ab_L} {st : List Value} {w : ab_W} (h : ab_isI (ls 5) = true) : ab_Run ab_mt 220 1054 ls st w = ab_Run ab_mt 220 1056 ls (ab_gv (ls 5) :: st) w := E_loadi (n := 2) rfl h
set_option maxRecDepth 30000 in
theorem e_220_1056 {ls : ab_L} {st : List Value} {w : ab_W} {x : Int32} : ab_Run ab_mt 220 1056 ls (.int x :: st) w = if x = 0 then ab_Run ab_mt 220 1059 ls st w else ab_Run ab_mt 220 1070 ls st w := E_if_ne rfl
set_option maxRecDepth 30000 in
theorem e_220_1059 {ls : ab_L} {st : List Value} {w : ab_W} (h : ab_isR (ls 3) = true) : ab_Run ab_mt 220 1059 ls st w = ab_Run ab_mt 220 1060 ls (ab_gv (ls 3) :: st) w := E_loadr (n := 1) rfl h
set_option maxRecDepth 30000 in
theorem e_220_1060 {ls : ab_L} {st : List Value} {w : ab_W} : ab_Run ab_mt 220 1060 ls st w = ab_Run ab_mt 220 1061 ls (.int (nI 0) :: st) w := E_push (n := 1) rfl
set_option maxRecDepth 30000 in
theorem e_220_1061 {ls : ab_L} {st : List Value} {w : ab_W} {a : Nat} {i : Int32} (h : ab_inL i (w.2 a) = true) : ab_Run ab_mt 220 1061 ls (.int i :: .ref a :: st) w = ab_Run ab_mt 220 1062 ls (.long (ab_aL i.toNatClampNeg (w.2 a)) :: st) w := E_lald rfl h
set_option maxRecDepth 30000 in
theorem e_220_1062 {ls : ab_L} {st : List Value} {w : ab_W} (h : ab_isL (ls 6) = true) (h2 : (ls 7).isNone = true) : ab_Run ab_mt 220 1062 ls st w = ab_Run ab_mt 220 1064 ls (ab_gv (ls 6) :: st) w := E_loadl (n := 2) rfl h h2
set_option maxRecDepth 30000 in
theorem e_220_1064 {ls : ab_L} {st : List Value} {w : ab_W} {x y : Int64} : ab_Run ab_mt 220 1064 ls (.long y :: .long x :: st) w = ab_Run ab_mt 220 1065 ls (.int (lg_cmp x y) :: st) w := E_lcmp rfl
set_option maxRecDepth 30000 in
theorem e_220_1065 {ls : ab_L} {st : List Value} {w : ab_W} {x : Int32} : ab_Run ab_mt 220 1065 ls (.int x :: st) w = if x = 0 then ab_Run ab_mt 220 1070 ls st w else ab_Run ab_mt 220 1068 ls st w := E_if_eq rfl
set_option maxRecDepth 30000 in
theorem e_220_1068 {ls : ab_L} {st : List Value} {w : ab_W} : ab_Run ab_mt 220 1068 ls st w = ab_Run ab_mt 220 1069 ls (.int (nI 0) :: st) w := E_push (n := 1) rfl
set_option maxRecDepth 30000 in
theorem e_220_1069 {ls : ab_L} {w : ab_W} {x : Int32} (h : ab_fitr 2 (.int x) = true) : ab_Run ab_mt 220 1069 ls [.int x] w = some (.inl (some (.int x)), w) := E_retz rfl h
set_option maxRecDepth 30000 in
theorem e_220_1070 {ls : ab_L} {st : List Value} {w : ab_W} : ab_Run ab_mt 220 1070 ls st w = ab_Run ab_mt 220 2053 ls st w := E_goto rfl
set_option maxRecDepth 30000 in
theorem e_220_1073 {ls : ab_L} {st : List Value} {w : ab_W} (h : ab_isR (ls 1) = true) : ab_Run ab_mt 220 1073 ls st w = ab_Run ab_mt 220 1074 ls (ab_gv (ls 1) :: st) w := E_loadr (n := 1) rfl h
set_option maxRecDepth 30000 in
theorem e_220_1074 {ls : ab_L} {st : List Value} {w : ab_W} (h : ab_isR (ls 0) = true) : ab_Run ab_mt 220 1074 ls st w = ab_Run ab_mt 220 1075 ls (ab_gv (ls 0) :: st) w := E_loadr (n := 1) rfl h
set_option maxRecDepth 30000 in
theorem e_220_1075 {ls : ab_L} {st : List Value} {w : ab_W} (h : ab_isI (ls 4) = true) : ab_Run ab_mt 220 1075 ls st w = ab_Run ab_mt 220 1077 ls (ab_gv (ls 4) :: st) w := E_loadi (n := 2) rfl h
set_option maxRecDepth 30000 in
theorem e_220_1077 {ls : ab_L} {st : List Value} {w : ab_W} : ab_Run ab_mt 220 1077 ls st w = ab_Run ab_mt 220 1078 ls (.int (nI 1) :: st) w := E_push (n := 1) rfl
set_option maxRecDepth 30000 in
theorem e_220_1078 {ls : ab_L} {st : List Value} {w : ab_W} {x y : Int32} : ab_Run ab_mt 220 1078 ls (.int y :: .int x :: st) w = ab_Run ab_mt 220 1079 ls (.int (x + y) :: st) w := E_ib (f := fun x y => x + y) rfl
set_option maxRecDepth 30000 in
theorem e_220_1079 {ls : ab_L} {st : List Value} {w : ab_W} {a : Nat} {i : Int32} (h : ab_inI i (w.2 a) = true) : ab_Run ab_mt 220 1079 ls (.int i :: .ref a :: st) w = ab_Run ab_mt 220 1080 ls (.int (ab_aI i.toNatClampNeg (w.2 a)) :: st) w := E_iald rfl h
set_option maxRecDepth 30000 in
theorem e_220_1080 {ls : ab_L} {st : List Value} {w : ab_W} (h : ab_isR (ls 3) = true) : ab_Run ab_mt 220 1080 ls st w = ab_Run ab_mt 220 1081 ls (ab_gv (ls 3) :: st) w := E_loadr (n := 1) rfl h
set_option maxRecDepth 30000 in
theorem e_220_1081 {ls : ab_L} {st : List Value} {w : ab_W} {v0 v1 v2 : Value} (h1 : ab_recv ab_mt 207 [v0, v1, v2] w.2 = true) (h8 : ab_w8 st = true) : ab_Run ab_mt 220 1081 ls (v2 :: v1 :: v0 :: st) w = ab_aft 207 220 1081 ls st (ab_Cl 207 [v0, v1, v2] w) := E_call3 rfl h1 h8
set_option maxRecDepth 30000 in
theorem e_220_1084 {ls : ab_L} {st : List Value} {w : ab_W} {x : Int32} : ab_Run ab_mt 220 1084 ls (.int x :: st) w = ab_Run ab_mt 220 1086 (ab_l1 ls 5 (.int x)) st w := E_stori (n := 2) rfl
set_option maxRecDepth 30000 in
theorem e_220_1086 {ls : ab_L} {st : List Value} {w : ab_W} (h : ab_isR (ls 2) = true) : ab_Run ab_mt 220 1086 ls st w = ab_Run ab_mt 220 1087 ls (ab_gv (ls 2) :: st) w := E_loadr (n := 1) rfl h
set_option maxRecDepth 30000 in
theorem e_220_1087 {ls : ab_L} {st : List Value} {w : ab_W} (h : ab_isR (ls 0) = true) : ab_Run ab_mt 220 1087 ls st w = ab_Run ab_mt 220 1088 ls (ab_gv (ls 0) :: st) w := E_loadr (n := 1) rfl h
set_option maxRecDepth 30000 in
theorem e_220_1088 {ls : ab_L} {st : List Value} {w : ab_W} (h : ab_isI (ls 4) = true) : ab_Run ab_mt 220 1088 ls st w = ab_Run ab_mt 220 1090 ls (ab_gv (ls 4) :: st) w := E_loadi (n := 2) rfl h
set_option maxRecDepth 30000 in
theorem e_220_1090 {ls : ab_L} {st : List Value} {w : ab_W} : ab_Run ab_mt 220 1090 ls st w = ab_Run ab_mt 220 1091 ls (.int (nI 1) :: st) w := E_push (n := 1) rfl
set_option maxRecDepth 30000 in
theorem e_220_1091 {ls : ab_L} {st : List Value} {w : ab_W} {x y : Int32} : ab_Run ab_mt 220 1091 ls (.int y :: .int x :: st) w = ab_Run ab_mt 220 1092 ls (.int (x + y) :: st) w := E_ib (f := fun x y => x + y) rfl
set_option maxRecDepth 30000 in
theorem e_220_1092 {ls : ab_L} {st : List Value} {w : ab_W} {a : Nat} {i : Int32} (h : ab_inI i (w.2 a) = true) : ab_Run ab_mt 220 1092 ls (.int i :: .ref a :: st) w = ab_Run ab_mt 220 1093 ls (.int (ab_aI i.toNatClampNeg (w.2 a)) :: st) w := E_iald rfl h
set_option maxRecDepth 30000 in
theorem e_220_1093 {ls : ab_L} {st : List Value} {w : ab_W} {v0 v1 : Value} (h1 : ab_recv ab_mt 162 [v0, v1] w.2 = true) (h8 : ab_w8 st = true) : ab_Run ab_mt 220 1093 ls (v1 :: v0 :: st) w = ab_aft 162 220 1093 ls st (ab_Cl 162 [v0, v1] w) := E_call2 rfl h1 h8
set_option maxRecDepth 30000 in
theorem e_220_1096 {ls : ab_L} {st : List Value} {w : ab_W} {x : Int32} : ab_Run ab_mt 220 1096 ls (.int x :: st) w = ab_Run ab_mt 220 1098 (ab_l1 ls 6 (.int x)) st w := E_stori (n := 2) rfl
set_option maxRecDepth 30000 in
theorem e_220_1098 {ls : ab_L} {st : List Value} {w : ab_W} (h : ab_isR (ls 2) = true) : ab_Run ab_mt 220 1098 ls st w = ab_Run ab_mt 220 1099 ls (ab_gv (ls 2) :: st) w := E_loadr (n := 1) rfl h
set_option maxRecDepth 30000 in
theorem e_220_1099 {ls : ab_L} {st : List Value} {w : ab_W} {v0 : Value} (h1 : ab_recv ab_mt 106 [v0] w.2 = true) (h8 : ab_w8 st = true) : ab_Run ab_mt 220 1099 ls (v0 :: st) w = ab_aft 106 220 1099 ls st (ab_Cl 106 [v0] w) := E_call1 rfl h1 h8
set_option maxRecDepth 30000 in
theorem e_220_1102 {ls : ab_L} {st : List Value} {w : ab_W} (h : ab_isI (ls 5) = true) : ab_Run ab_mt 220 1102 ls st w = ab_Run ab_mt 220 1104 ls (ab_gv (ls 5) :: st) w := E_loadi (n := 2) rfl h
set_option maxRecDepth 30000 in
theorem e_220_1104 {ls : ab_L} {st : List Value} {w : ab_W} {x y : Int32} : ab_Run ab_mt 220 1104 ls (.int y :: .int x :: st) w = if x = y then ab_Run ab_mt 220 1109 ls st w else ab_Run ab_mt 220 1107 ls st w := E_ic_eq rfl
set_option maxRecDepth 30000 in
theorem e_220_1107 {ls : ab_L} {st : List Value} {w : ab_W} : ab_Run ab_mt 220 1107 ls st w = ab_Run ab_mt 220 1108 ls (.int (nI 0) :: st) w := E_push (n := 1) rfl
set_option maxRecDepth 30000 in
theorem e_220_1108 {ls : ab_L} {w : ab_W} {x : Int32} (h : ab_fitr 2 (.int x) = true) : ab_Run ab_mt 220 1108 ls [.int x] w = some (.inl (some (.int x)), w) := E_retz rfl h
set_option maxRecDepth 30000 in
theorem e_220_1109 {ls : ab_L} {st : List Value} {w : ab_W} (h : ab_isI (ls 5) = true) : ab_Run ab_mt 220 1109 ls st w = ab_Run ab_mt 220 1111 ls (ab_gv (ls 5) :: st) w := E_loadi (n := 2) rfl h
set_option maxRecDepth 30000 in
theorem e_220_1111 {ls : ab_L} {st : List Value} {w : ab_W} {x : Int32} : ab_Run ab_mt 220 1111 ls (.int x :: st) w = if x = 0 then ab_Run ab_mt 220 1114 ls st w else ab_Run ab_mt 220 1126 ls st w := E_if_ne rfl
set_option maxRecDepth 30000 in
theorem e_220_1114 {ls : ab_L} {st : List Value} {w : ab_W} (h : ab_isR (ls 3) = true) : ab_Run ab_mt 220 1114 ls st w = ab_Run ab_mt 220 1115 ls (ab_gv (ls 3) :: st) w := E_loadr (n := 1) rfl h
set_option maxRecDepth 30000 in
theorem e_220_1115 {ls : ab_L} {st : List Value} {w : ab_W} : ab_Run ab_mt 220 1115 ls st w = ab_Run ab_mt 220 1116 ls (.int (nI 0) :: st) w := E_push (n := 1) rfl
set_option maxRecDepth 30000 in
theorem e_220_1116 {ls : ab_L} {st : List Value} {w : ab_W} {a : Nat} {i : Int32} (h : ab_inL i (w.2 a) = true) : ab_Run ab_mt 220 1116 ls (.int i :: .ref a :: st) w = ab_Run ab_mt 220 1117 ls (.long (ab_aL i.toNatClampNeg (w.2 a)) :: st) w := E_lald rfl h
set_option maxRecDepth 30000 in
theorem e_220_1117 {ls : ab_L} {st : List Value} {w : ab_W} (h : ab_isI (ls 6) = true) : ab_Run ab_mt 220 1117 ls st w = ab_Run ab_mt 220 1119 ls (ab_gv (ls 6) :: st) w := E_loadi (n := 2) rfl h
set_option maxRecDepth 30000 in
theorem e_220_1119 {ls : ab_L} {st : List Value} {w : ab_W} {x : Int32} : ab_Run ab_mt 220 1119 ls (.int x :: st) w = ab_Run ab_mt 220 1120 ls (.long x.toInt64 :: st) w := E_i2l rfl
set_option maxRecDepth 30000 in
theorem e_220_1120 {ls : ab_L} {st : List Value} {w : ab_W} {x y : Int64} : ab_Run ab_mt 220 1120 ls (.long y :: .long x :: st) w = ab_Run ab_mt 220 1121 ls (.int (lg_cmp x y) :: st) w := E_lcmp rfl
set_option maxRecDepth 30000 in
theorem e_220_1121 {ls : ab_L} {st : List Value} {w : ab_W} {x : Int32} : ab_Run ab_mt 220 1121 ls (.int x :: st) w = if x = 0 then ab_Run ab_mt 220 1126 ls st w else ab_Run ab_mt 220 1124 ls st w := E_if_eq rfl
set_option maxRecDepth 30000 in
theorem e_220_1124 {ls : ab_L} {st : List Value} {w : ab_W} : ab_Run ab_mt 220 1124 ls st w = ab_Run ab_mt 220 1125 ls (.int (nI 0) :: st) w := E_push (n := 1) rfl
set_option maxRecDepth 30000 in
theorem e_220_1125 {ls : ab_L} {w : ab_W} {x : Int32} (h : ab_fitr 2 (.int x) = true) : ab_Run ab_mt 220 1125 ls [.int x] w = some (.inl (some (.int x)), w) := E_retz rfl h
set_option maxRecDepth 30000 in
theorem e_220_1126 {ls : ab_L} {st : List Value} {w : ab_W} : ab_Run ab_mt 220 1126 ls st w = ab_Run ab_mt 220 2053 ls st w := E_goto rfl
set_option maxRecDepth 30000 in
theorem e_220_1129 {ls : ab_L} {st : List Value} {w : ab_W} (h : ab_isR (ls 1) = true) : ab_Run ab_mt 220 1129 ls st w = ab_Run ab_mt 220 1130 ls (ab_gv (ls 1) :: st) w := E_loadr (n := 1) rfl h
set_option maxRecDepth 30000 in
theorem e_220_1130 {ls : ab_L} {st : List Value} {w : ab_W} (h : ab_isR (ls 3) = true) : ab_Run ab_mt 220 1130 ls st w = ab_Run ab_mt 220 1131 ls (ab_gv (ls 3) :: st) w := E_loadr (n := 1) rfl h
set_option maxRecDepth 30000 in
theorem e_220_1131 {ls : ab_L} {st : List Value} {w : ab_W} {v0 v1 : Value} (h1 : ab_recv ab_mt 208 [v0, v1] w.2 = true) (h8 : ab_w8 st = true) : ab_Run ab_mt 220 1131 ls (v1 :: v0 :: st) w = ab_aft 208 220 1131 ls st (ab_Cl 208 [v0, v1] w) := E_call2 rfl h1 h8
set_option maxRecDepth 30000 in
theorem e_220_1134 {ls : ab_L} {st : List Value} {w : ab_W} {x : Int32} : ab_Run ab_mt 220 1134 ls (.int x :: st) w = ab_Run ab_mt 220 1136 (ab_l1 ls 5 (.int x)) st w := E_stori (n := 2) rfl
set_option maxRecDepth 30000 in
theorem e_220_1136 {ls : ab_L} {st : List Value} {w : ab_W} (h : ab_isR (ls 2) = true) : ab_Run ab_mt 220 1136 ls st w = ab_Run ab_mt 220 1137 ls (ab_gv (ls 2) :: st) w := E_loadr (n := 1) rfl h
set_option maxRecDepth 30000 in
theorem e_220_1137 {ls : ab_L} {st : List Value} {w : ab_W} {v0 : Value} (h1 : ab_recv ab_mt 163 [v0] w.2 = true) (h8 : ab_w8 st = true) : ab_Run ab_mt 220 1137 ls (v0 :: st) w = ab_aft 163 220 1137 ls st (ab_Cl 163 [v0] w) := E_call1 rfl h1 h8
set_option maxRecDepth 30000 in
theorem e_220_1140 {ls : ab_L} {st : List Value} {w : ab_W} {x : Int64} : ab_Run ab_mt 220 1140 ls (.long x :: st) w = ab_Run ab_mt 220 1142 (ab_l2 ls 6 (.long x)) st w := E_storl (n := 2) rfl
set_option maxRecDepth 30000 in
theorem e_220_1142 {ls : ab_L} {st : List Value} {w : ab_W} (h : ab_isR (ls 2) = true) : ab_Run ab_mt 220 1142 ls st w = ab_Run ab_mt 220 1143 ls (ab_gv (ls 2) :: st) w := E_loadr (n := 1) rfl h
set_option maxRecDepth 30000 in
theorem e_220_1143 {ls : ab_L} {st : List Value} {w : ab_W} {v0 : Value} (h1 : ab_recv ab_mt 106 [v0] w.2 = true) (h8 : ab_w8 st = true) : ab_Run ab_mt 220 1143 ls (v0 :: st) w = ab_aft 106 220 1143 ls st (ab_Cl 106 [v0] w) := E_call1 rfl h1 h8
set_option maxRecDepth 30000 in
theorem e_220_1146 {ls : ab_L} {st : List Value} {w : ab_W} (h : ab_isI (ls 5) = true) : ab_Run ab_mt 220 1146 ls st w = ab_Run ab_mt 220 1148 ls (ab_gv (ls 5) :: st) w := E_loadi (n := 2) rfl h
set_option maxRecDepth 30000 in
theorem e_220_1148 {ls : ab_L} {st : List Value} {w : ab_W} {x y : Int32} : ab_Run ab_mt 220 1148 ls (.int y :: .int x :: st) w = if x = y then ab_Run ab_mt 220 1153 ls st w else ab_Run ab_mt 220 1151 ls st w := E_ic_eq rfl
set_option maxRecDepth 30000 in
theorem e_220_1151 {ls : ab_L} {st : List Value} {w : ab_W} : ab_Run ab_mt 220 1151 ls st w = ab_Run ab_mt 220 1152 ls (.int (nI 0) :: st) w := E_push (n := 1) rfl
set_option maxRecDepth 30000 in
theorem e_220_1152 {ls : ab_L} {w : ab_W} {x : Int32} (h : ab_fitr 2 (.int x) = true) : ab_Run ab_mt 220 1152 ls [.int x] w = some (.inl (some (.int x)), w) := E_retz rfl h
set_option maxRecDepth 30000 in
theorem e_220_1153 {ls : ab_L} {st : List Value} {w : ab_W} (h : ab_isI (ls 5) = true) : ab_Run ab_mt 220 1153 ls st w = ab_Run ab_mt 220 1155 ls (ab_gv (ls 5) :: st) w := E_loadi (n := 2) rfl h
set_option maxRecDepth 30000 in
theorem e_220_1155 {ls : ab_L} {st : List Value} {w : ab_W} {x : Int32} : ab_Run ab_mt 220 1155 ls (.int x :: st) w = if x = 0 then ab_Run ab_mt 220 1158 ls st w else ab_Run ab_mt 220 1169 ls st w := E_if_ne rfl
set_option maxRecDepth 30000 in
theorem e_220_1158 {ls : ab_L} {st : List Value} {w : ab_W} (h : ab_isR (ls 3) = true) : ab_Run ab_mt 220 1158 ls st w = ab_Run ab_mt 220 1159 ls (ab_gv (ls 3) :: st) w := E_loadr (n := 1) rfl h
set_option maxRecDepth 30000 in
theorem e_220_1159 {ls : ab_L} {st : List Value} {w : ab_W} : ab_Run ab_mt 220 1159 ls st w = ab_Run ab_mt 220 1160 ls (.int (nI 0) :: st) w := E_push (n := 1) rfl
set_option maxRecDepth 30000 in
theorem e_220_1160 {ls : ab_L} {st : List Value} {w : ab_W} {a : Nat} {i : Int32} (h : ab_inL i (w.2 a) = true) : ab_Run ab_mt 220 1160 ls (.int i :: .ref a :: st) w = ab_Run ab_mt 220 1161 ls (.long (ab_aL i.toNatClampNeg (w.2 a)) :: st) w := E_lald rfl h
set_option maxRecDepth 30000 in
theorem e_220_1161 {ls : ab_L} {st : List Value} {w : ab_W} (h : ab_isL (ls 6) = true) (h2 : (ls 7).isNone = true) : ab_Run ab_mt 220 1161 ls st w = ab_Run ab_mt 220 1163 ls (ab_gv (ls 6) :: st) w := E_loadl (n := 2) rfl h h2
set_option maxRecDepth 30000 in
theorem e_220_1163 {ls : ab_L} {st : List Value} {w : ab_W} {x y : Int64} : ab_Run ab_mt 220 1163 ls (.long y :: .long x :: st) w = ab_Run ab_mt 220 1164 ls (.int (lg_cmp x y) :: st) w := E_lcmp rfl
set_option maxRecDepth 30000 in
theorem e_220_1164 {ls : ab_L} {st : List Value} {w : ab_W} {x : Int32} : ab_Run ab_mt 220 1164 ls (.int x :: st) w = if x = 0 then ab_Run ab_mt 220 1169 ls st w else ab_Run ab_mt 220 1167 ls st w := E_if_eq rfl
set_option maxRecDepth 30000 in
theorem e_220_1167 {ls : ab_L} {st : List Value} {w : ab_W} : ab_Run ab_mt 220 1167 ls st w = ab_Run ab_mt 220 1168 ls (.int (nI 0) :: st) w := E_push (n := 1) rfl
set_option maxRecDepth 30000 in
theorem e_220_1168 {ls : ab_L} {w : ab_W} {x : Int32} (h : ab_fitr 2 (.int x) = true) : ab_Run ab_mt 220 1168 ls [.int x] w = some (.inl (some (.int x)), w) := E_retz rfl h
set_option maxRecDepth 30000 in
theorem e_220_1169 {ls : ab_L} {st : List Value} {w : ab_W} : ab_Run ab_mt 220 1169 ls st w = ab_Run ab_mt 220 2053 ls st w := E_goto rfl
set_option maxRecDepth 30000 in
theorem e_220_1172 {ls : ab_L} {st : List Value} {w : ab_W} (h : ab_isR (ls 1) = true) : ab_Run ab_mt 220 1172 ls st w = ab_Run ab_mt 220 1173 ls (ab_gv (ls 1) :: st) w := E_loadr (n := 1) rfl h
set_option maxRecDepth 30000 in
theorem e_220_1173 {ls : ab_L} {st : List Value} {w : ab_W} (h : ab_isR (ls 0) = true) : ab_Run ab_mt 220 1173 ls st w = ab_Run ab_mt 220 1174 ls (ab_gv (ls 0) :: st) w := E_loadr (n := 1) rfl h
set_option maxRecDepth 30000 in
theorem e_220_1174 {ls : ab_L} {st : List Value} {w : ab_W} (h : ab_isI (ls 4) = true) : ab_Run ab_mt 220 1174 ls st w = ab_Run ab_mt 220 1176 ls (ab_gv (ls 4) :: st) w := E_loadi (n := 2) rfl h
set_option maxRecDepth 30000 in
theorem e_220_1176 {ls : ab_L} {st : List Value} {w : ab_W} : ab_Run ab_mt 220 1176 ls st w = ab_Run ab_mt 220 1177 ls (.int (nI 1) :: st) w := E_push (n := 1) rfl
set_option maxRecDepth 30000 in
theorem e_220_1177 {ls : ab_L} {st : List Value} {w : ab_W} {x y : Int32} : ab_Run ab_mt 220 1177 ls (.int y :: .int x :: st) w = ab_Run ab_mt 220 1178 ls (.int (x + y) :: st) w := E_ib (f := fun x y => x + y) rfl
set_option maxRecDepth 30000 in
theorem e_220_1178 {ls : ab_L} {st : List Value} {w : ab_W} {a : Nat} {i : Int32} (h : ab_inI i (w.2 a) = true) : ab_Run ab_mt 220 1178 ls (.int i :: .ref a :: st) w = ab_Run ab_mt 220 1179 ls (.int (ab_aI i.toNatClampNeg (w.2 a)) :: st) w := E_iald rfl h
set_option maxRecDepth 30000 in
theorem e_220_1179 {ls : ab_L} {st : List Value} {w : ab_W} (h : ab_isR (ls 3) = true) : ab_Run ab_mt 220 1179 ls st w = ab_Run ab_mt 220 1180 ls (ab_gv (ls 3) :: st) w := E_loadr (n := 1) rfl h
set_option maxRecDepth 30000 in
theorem e_220_1180 {ls : ab_L} {st : List Value} {w : ab_W} {v0 v1 v2 : Value} (h1 : ab_recv ab_mt 209 [v0, v1, v2] w.2 = true) (h8 : ab_w8 st = true) : ab_Run ab_mt 220 1180 ls (v2 :: v1 :: v0 :: st) w = ab_aft 209 220 1180 ls st (ab_Cl 209 [v0, v1, v2] w) := E_call3 rfl h1 h8
set_option maxRecDepth 30000 in
theorem e_220_1183 {ls : ab_L} {st : List Value} {w : ab_W} {x : Int32} : ab_Run ab_mt 220 1183 ls (.int x :: st) w = ab_Run ab_mt 220 1185 (ab_l1 ls 5 (.int x)) st w := E_stori (n := 2) rfl
set_option maxRecDepth 30000 in
theorem e_220_1185 {ls : ab_L} {st : List Value} {w : ab_W} (h : ab_isR (ls 2) = true) : ab_Run ab_mt 220 1185 ls st w = ab_Run ab_mt 220 1186 ls (ab_gv (ls 2) :: st) w := E_loadr (n := 1) rfl h
set_option maxRecDepth 30000 in
theorem e_220_1186 {ls : ab_L} {st : List Value} {w : ab_W} (h : ab_isR (ls 0) = true) : ab_Run ab_mt 220 1186 ls st w = ab_Run ab_mt 220 1187 ls (ab_gv (ls 0) :: st) w := E_loadr (n := 1) rfl h
set_option maxRecDepth 30000 in
theorem e_220_1187 {ls : ab_L} {st : List Value} {w : ab_W} (h : ab_isI (ls 4) = true) : ab_Run ab_mt 220 1187 ls st w = ab_Run ab_mt 220 1189 ls (ab_gv (ls 4) :: st) w := E_loadi (n := 2) rfl h
set_option maxRecDepth 30000 in
theorem e_220_1189 {ls : ab_L} {st : List Value} {w : ab_W} : ab_Run ab_mt 220 1189 ls st w = ab_Run ab_mt 220 1190 ls (.int (nI 1) :: st) w := E_push (n := 1) rfl
set_option maxRecDepth 30000 in
theorem e_220_1190 {ls : ab_L} {st : List Value} {w : ab_W} {x y : Int32} : ab_Run ab_mt 220 1190 ls (.int y :: .int x :: st) w = ab_Run ab_mt 220 1191 ls (.int (x + y) :: st) w := E_ib (f := fun x y => x + y) rfl
set_option maxRecDepth 30000 in
theorem e_220_1191 {ls : ab_L} {st : List Value} {w : ab_W} {a : Nat} {i : Int32} (h : ab_inI i (w.2 a) = true) : ab_Run ab_mt 220 1191 ls (.int i :: .ref a :: st) w = ab_Run ab_mt 220 1192 ls (.int (ab_aI i.toNatClampNeg (w.2 a)) :: st) w := E_iald rfl h
set_option maxRecDepth 30000 in
theorem e_220_1192 {ls : ab_L} {st : List Value} {w : ab_W} {v0 v1 : Value} (h1 : ab_recv ab_mt 168 [v0, v1] w.2 = true) (h8 : ab_w8 st = true) : ab_Run ab_mt 220 1192 ls (v1 :: v0 :: st) w = ab_aft 168 220 1192 ls st (ab_Cl 168 [v0, v1] w) := E_call2 rfl h1 h8
set_option maxRecDepth 30000 in
theorem e_220_1195 {ls : ab_L} {st : List Value} {w : ab_W} {x : Int64} : ab_Run ab_mt 220 1195 ls (.long x :: st) w = ab_Run ab_mt 220 1197 (ab_l2 ls 6 (.long x)) st w := E_storl (n := 2) rfl
set_option maxRecDepth 30000 in
theorem e_220_1197 {ls : ab_L} {st : List Value} {w : ab_W} (h : ab_isR (ls 2) = true) : ab_Run ab_mt 220 1197 ls st w = ab_Run ab_mt 220 1198 ls (ab_gv (ls 2) :: st) w := E_loadr (n := 1) rfl h
set_option maxRecDepth 30000 in
theorem e_220_1198 {ls : ab_L} {st : List Value} {w : ab_W} {v0 : Value} (h1 : ab_recv ab_mt 106 [v0] w.2 = true) (h8 : ab_w8 st = true) : ab_Run ab_mt 220 1198 ls (v0 :: st) w = ab_aft 106 220 1198 ls st (ab_Cl 106 [v0] w) := E_call1 rfl h1 h8
set_option maxRecDepth 30000 in
theorem e_220_1201 {ls : ab_L} {st : List Value} {w : ab_W} (h : ab_isI (ls 5) = true) : ab_Run ab_mt 220 1201 ls st w = ab_Run ab_mt 220 1203 ls (ab_gv (ls 5) :: st) w := E_loadi (n := 2) rfl h
set_option maxRecDepth 30000 in
theorem e_220_1203 {ls : ab_L} {st : List Value} {w : ab_W} {x y : Int32} : ab_Run ab_mt 220 1203 ls (.int y :: .int x :: st) w = if x = y then ab_Run ab_mt 220 1208 ls st w else ab_Run ab_mt 220 1206 ls st w := E_ic_eq rfl
set_option maxRecDepth 30000 in
theorem e_220_1206 {ls : ab_L} {st : List Value} {w : ab_W} : ab_Run ab_mt 220 1206 ls st w = ab_Run ab_mt 220 1207 ls (.int (nI 0) :: st) w := E_push (n := 1) rfl
set_option maxRecDepth 30000 in
theorem e_220_1207 {ls : ab_L} {w : ab_W} {x : Int32} (h : ab_fitr 2 (.int x) = true) : ab_Run ab_mt 220 1207 ls [.int x] w = some (.inl (some (.int x)), w) := E_retz rfl h
set_option maxRecDepth 30000 in
theorem e_220_1208 {ls : ab_L} {st : List Value} {w : ab_W} (h : ab_isI (ls 5) = true) : ab_Run ab_mt 220 1208 ls st w = ab_Run ab_mt 220 1210 ls (ab_gv (ls 5) :: st) w := E_loadi (n := 2) rfl h
set_option maxRecDepth 30000 in
theorem e_220_1210 {ls : ab_L} {st : List Value} {w : ab_W} {x : Int32} : ab_Run ab_mt 220 1210 ls (.int x :: st) w = if x = 0 then ab_Run ab_mt 220 1213 ls st w else ab_Run ab_mt 220 1224 ls st w := E_if_ne rfl
set_option maxRecDepth 30000 in
theorem e_220_1213 {ls : ab_L} {st : List Value} {w : ab_W} (h : ab_isR (ls 3) = true) : ab_Run ab_mt 220 1213 ls st w = ab_Run ab_mt 220 1214 ls (ab_gv (ls 3) :: st) w := E_loadr (n := 1) rfl h
set_option maxRecDepth 30000 in
theorem e_220_1214 {ls : ab_L} {st : List Value} {w : ab_W} : ab_Run ab_mt 220 1214 ls st w = ab_Run ab_mt 220 1215 ls (.int (nI 0) :: st) w := E_push (n := 1) rfl
set_option maxRecDepth 30000 in
theorem e_220_1215 {ls : ab_L} {st : List Value} {w : ab_W} {a : Nat} {i : Int32} (h : ab_inL i (w.2 a) = true) : ab_Run ab_mt 220 1215 ls (.int i :: .ref a :: st) w = ab_Run ab_mt 220 1216 ls (.long (ab_aL i.toNatClampNeg (w.2 a)) :: st) w := E_lald rfl h
set_option maxRecDepth 30000 in
theorem e_220_1216 {ls : ab_L} {st : List Value} {w : ab_W} (h : ab_isL (ls 6) = true) (h2 : (ls 7).isNone = true) : ab_Run ab_mt 220 1216 ls st w = ab_Run ab_mt 220 1218 ls (ab_gv (ls 6) :: st) w := E_loadl (n := 2) rfl h h2
set_option maxRecDepth 30000 in
theorem e_220_1218 {ls : ab_L} {st : List Value} {w : ab_W} {x y : Int64} : ab_Run ab_mt 220 1218 ls (.long y :: .long x :: st) w = ab_Run ab_mt 220 1219 ls (.int (lg_cmp x y) :: st) w := E_lcmp rfl
set_option maxRecDepth 30000 in
theorem e_220_1219 {ls : ab_L} {st : List Value} {w : ab_W} {x : Int32} : ab_Run ab_mt 220 1219 ls (.int x :: st) w = if x = 0 then ab_Run ab_mt 220 1224 ls st w else ab_Run ab_mt 220 1222 ls st w := E_if_eq rfl
set_option maxRecDepth 30000 in
theorem e_220_1222 {ls : ab_L} {st : List Value} {w : ab_W} : ab_Run ab_mt 220 1222 ls st w = ab_Run ab_mt 220 1223 ls (.int (nI 0) :: st) w := E_push (n := 1) rfl
set_option maxRecDepth 30000 in
theorem e_220_1223 {ls : ab_L} {w : ab_W} {x : Int32} (h : ab_fitr 2 (.int x) = true) : ab_Run ab_mt 220 1223 ls [.int x] w = some (.inl (some (.int x)), w) := E_retz rfl h
set_option maxRecDepth 30000 in
theorem e_220_1224 {ls : ab_L} {st : List Value} {w : ab_W} : ab_Run ab_mt 220 1224 ls st w = ab_Run ab_mt 220 2053 ls st w := E_goto rfl
set_option maxRecDepth 30000 in
theorem e_220_1227 {ls : ab_L} {st : List Value} {w : ab_W} (h : ab_isR (ls 1) = true) : ab_Run ab_mt 220 1227 ls st w = ab_Run ab_mt 220 1228 ls (ab_gv (ls 1) :: st) w := E_loadr (n := 1) rfl h
set_option maxRecDepth 30000 in
theorem e_220_1228 {ls : ab_L} {st : List Value} {w : ab_W} (h : ab_isR (ls 0) = true) : ab_Run ab_mt 220 1228 ls st w = ab_Run ab_mt 220 1229 ls (ab_gv (ls 0) :: st) w := E_loadr (n := 1) rfl h
set_option maxRecDepth 30000 in
theorem e_220_1229 {ls : ab_L} {st : List Value} {w : ab_W} (h : ab_isI (ls 4) = true) : ab_Run ab_mt 220 1229 ls st w = ab_Run ab_mt 220 1231 ls (ab_gv (ls 4) :: st) w := E_loadi (n := 2) rfl h
set_option maxRecDepth 30000 in
theorem e_220_1231 {ls : ab_L} {st : List Value} {w : ab_W} : ab_Run ab_mt 220 1231 ls st w = ab_Run ab_mt 220 1232 ls (.int (nI 1) :: st) w := E_push (n := 1) rfl
set_option maxRecDepth 30000 in
theorem e_220_1232 {ls : ab_L} {st : List Value} {w : ab_W} {x y : Int32} : ab_Run ab_mt 220 1232 ls (.int y :: .int x :: st) w = ab_Run ab_mt 220 1233 ls (.int (x + y) :: st) w := E_ib (f := fun x y => x + y) rfl
set_option maxRecDepth 30000 in
theorem e_220_1233 {ls : ab_L} {st : List Value} {w : ab_W} {a : Nat} {i : Int32} (h : ab_inI i (w.2 a) = true) : ab_Run ab_mt 220 1233 ls (.int i :: .ref a :: st) w = ab_Run ab_mt 220 1234 ls (.int (ab_aI i.toNatClampNeg (w.2 a)) :: st) w := E_iald rfl h
set_option maxRecDepth 30000 in
theorem e_220_1234 {ls : ab_L} {st : List Value} {w : ab_W} (h : ab_isR (ls 0) = true) : ab_Run ab_mt 220 1234 ls st w = ab_Run ab_mt 220 1235 ls (ab_gv (ls 0) :: st) w := E_loadr (n := 1) rfl h
set_option maxRecDepth 30000 in
theorem e_220_1235 {ls : ab_L} {st : List Value} {w : ab_W} (h : ab_isI (ls 4) = true) : ab_Run ab_mt 220 1235 ls st w = ab_Run ab_mt 220 1237 ls (ab_gv (ls 4) :: st) w := E_loadi (n := 2) rfl h
set_option maxRecDepth 30000 in
theorem e_220_1237 {ls : ab_L} {st : List Value} {w : ab_W} : ab_Run ab_mt 220 1237 ls st w = ab_Run ab_mt 220 1238 ls (.int (nI 2) :: st) w := E_push (n := 1) rfl
set_option maxRecDepth 30000 in
theorem e_220_1238 {ls : ab_L} {st : List Value} {w : ab_W} {x y : Int32} : ab_Run ab_mt 220 1238 ls (.int y :: .int x :: st) w = ab_Run ab_mt 220 1239 ls (.int (x + y) :: st) w := E_ib (f := fun x y => x + y) rfl
set_option maxRecDepth 30000 in
theorem e_220_1239 {ls : ab_L} {st : List Value} {w : ab_W} {a : Nat} {i : Int32} (h : ab_inI i (w.2 a) = true) : ab_Run ab_mt 220 1239 ls (.int i :: .ref a :: st) w = ab_Run ab_mt 220 1240 ls (.int (ab_aI i.toNatClampNeg (w.2 a)) :: st) w := E_iald rfl h
set_option maxRecDepth 30000 in
theorem e_220_1240 {ls : ab_L} {st : List Value} {w : ab_W} (h : ab_isR (ls 3) = true) : ab_Run ab_mt 220 1240 ls st w = ab_Run ab_mt 220 1241 ls (ab_gv (ls 3) :: st) w := E_loadr (n := 1) rfl h
set_option maxRecDepth 30000 in
theorem e_220_1241 {ls : ab_L} {st : List Value} {w : ab_W} {v0 v1 v2 v3 : Value} (h1 : ab_recv ab_mt 210 [v0, v1, v2, v3] w.2 = true) (h8 : ab_w8 st = true) : ab_Run ab_mt 220 1241 ls (v3 :: v2 :: v1 :: v0 :: st) w = ab_aft 210 220 1241 ls st (ab_Cl 210 [v0, v1, v2, v3] w) := E_call4 rfl h1 h8
set_option maxRecDepth 30000 in
theorem e_220_1244 {ls : ab_L} {st : List Value} {w : ab_W} {x : Int32} : ab_Run ab_mt 220 1244 ls (.int x :: st) w = ab_Run ab_mt 220 1246 (ab_l1 ls 5 (.int x)) st w := E_stori (n := 2) rfl
set_option maxRecDepth 30000 in
theorem e_220_1246 {ls : ab_L} {st : List Value} {w : ab_W} (h : ab_isR (ls 2) = true) : ab_Run ab_mt 220 1246 ls st w = ab_Run ab_mt 220 1247 ls (ab_gv (ls 2) :: st) w := E_loadr (n := 1) rfl h
set_option maxRecDepth 30000 in
theorem e_220_1247 {ls : ab_L} {st : List Value} {w : ab_W} (h : ab_isR (ls 0) = true) : ab_Run ab_mt 220 1247 ls st w = ab_Run ab_mt 220 1248 ls (ab_gv (ls 0) :: st) w := E_loadr (n := 1) rfl h
set_option maxRecDepth 30000 in
theorem e_220_1248 {ls : ab_L} {st : List Value} {w : ab_W} (h : ab_isI (ls 4) = true) : ab_Run ab_mt 220 1248 ls st w = ab_Run ab_mt 220 1250 ls (ab_gv (ls 4) :: st) w := E_loadi (n := 2) rfl h
set_option maxRecDepth 30000 in
theorem e_220_1250 {ls : ab_L} {st : List Value} {w : ab_W} : ab_Run ab_mt 220 1250 ls st w = ab_Run ab_mt 220 1251 ls (.int (nI 1) :: st) w := E_push (n := 1) rfl
set_option maxRecDepth 30000 in
theorem e_220_1251 {ls : ab_L} {st : List Value} {w : ab_W} {x y : Int32} : ab_Run ab_mt 220 1251 ls (.int y :: .int x :: st) w = ab_Run ab_mt 220 1252 ls (.int (x + y) :: st) w := E_ib (f := fun x y => x + y) rfl
set_option maxRecDepth 30000 in
theorem e_220_1252 {ls : ab_L} {st : List Value} {w : ab_W} {a : Nat} {i : Int32} (h : ab_inI i (w.2 a) = true) : ab_Run ab_mt 220 1252 ls (.int i :: .ref a :: st) w = ab_Run ab_mt 220 1253 ls (.int (ab_aI i.toNatClampNeg (w.2 a)) :: st) w := E_iald rfl h
set_option maxRecDepth 30000 in
theorem e_220_1253 {ls : ab_L} {st : List Value} {w : ab_W} (h : ab_isR (ls 0) = true) : ab_Run ab_mt 220 1253 ls st w = ab_Run ab_mt 220 1254 ls (ab_gv (ls 0) :: st) w := E_loadr (n := 1) rfl h
set_option maxRecDepth 30000 in
theorem e_220_1254 {ls : ab_L} {st : List Value} {w : ab_W} (h : ab_isI (ls 4) = true) : ab_Run ab_mt 220 1254 ls st w = ab_Run ab_mt 220 1256 ls (ab_gv (ls 4) :: st) w := E_loadi (n := 2) rfl h
set_option maxRecDepth 30000 in
theorem e_220_1256 {ls : ab_L} {st : List Value} {w : ab_W} : ab_Run ab_mt 220 1256 ls st w = ab_Run ab_mt 220 1257 ls (.int (nI 2) :: st) w := E_push (n := 1) rfl
set_option maxRecDepth 30000 in
theorem e_220_1257 {ls : ab_L} {st : List Value} {w : ab_W} {x y : Int32} : ab_Run ab_mt 220 1257 ls (.int y :: .int x :: st) w = ab_Run ab_mt 220 1258 ls (.int (x + y) :: st) w := E_ib (f := fun x y => x + y) rfl
set_option maxRecDepth 30000 in
theorem e_220_1258 {ls : ab_L} {st : List Value} {w : ab_W} {a : Nat} {i : Int32} (h : ab_inI i (w.2 a) = true) : ab_Run ab_mt 220 1258 ls (.int i :: .ref a :: st) w = ab_Run ab_mt 220 1259 ls (.int (ab_aI i.toNatClampNeg (w.2 a)) :: st) w := E_iald rfl h
set_option maxRecDepth 30000 in
theorem e_220_1259 {ls : ab_L} {st : List Value} {w : ab_W} {v0 v1 v2 : Value} (h1 : ab_recv ab_mt 169 [v0, v1, v2] w.2 = true) (h8 : ab_w8 st = true) : ab_Run ab_mt 220 1259 ls (v2 :: v1 :: v0 :: st) w = ab_aft 169 220 1259 ls st (ab_Cl 169 [v0, v1, v2] w) := E_call3 rfl h1 h8
set_option maxRecDepth 30000 in
theorem e_220_1262 {ls : ab_L} {st : List Value} {w : ab_W} {x : Int32} : ab_Run ab_mt 220 1262 ls (.int x :: st) w = ab_Run ab_mt 220 1264 (ab_l1 ls 6 (.int x)) st w := E_stori (n := 2) rfl
set_option maxRecDepth 30000 in
theorem e_220_1264 {ls : ab_L} {st : List Value} {w : ab_W} (h : ab_isR (ls 2) = true) : ab_Run ab_mt 220 1264 ls st w = ab_Run ab_mt 220 1265 ls (ab_gv (ls 2) :: st) w := E_loadr (n := 1) rfl h
set_option maxRecDepth 30000 in
theorem e_220_1265 {ls : ab_L} {st : List Value} {w : ab_W} {v0 : Value} (h1 : ab_recv ab_mt 106 [v0] w.2 = true) (h8 : ab_w8 st = true) : ab_Run ab_mt 220 1265 ls (v0 :: st) w = ab_aft 106 220 1265 ls st (ab_Cl 106 [v0] w) := E_call1 rfl h1 h8
set_option maxRecDepth 30000 in
theorem e_220_1268 {ls : ab_L} {st : List Value} {w : ab_W} (h : ab_isI (ls 5) = true) : ab_Run ab_mt 220 1268 ls st w = ab_Run ab_mt 220 1270 ls (ab_gv (ls 5) :: st) w := E_loadi (n := 2) rfl h
set_option maxRecDepth 30000 in
theorem e_220_1270 {ls : ab_L} {st : List Value} {w : ab_W} {x y : Int32} : ab_Run ab_mt 220 1270 ls (.int y :: .int x :: st) w = if x = y then ab_Run ab_mt 220 1275 ls st w else ab_Run ab_mt 220 1273 ls st w := E_ic_eq rfl
set_option maxRecDepth 30000 in
theorem e_220_1273 {ls : ab_L} {st : List Value} {w : ab_W} : ab_Run ab_mt 220 1273 ls st w = ab_Run ab_mt 220 1274 ls (.int (nI 0) :: st) w := E_push (n := 1) rfl
set_option maxRecDepth 30000 in
theorem e_220_1274 {ls : ab_L} {w : ab_W} {x : Int32} (h : ab_fitr 2 (.int x) = true) : ab_Run ab_mt 220 1274 ls [.int x] w = some (.inl (some (.int x)), w) := E_retz rfl h
set_option maxRecDepth 30000 in
theorem e_220_1275 {ls : ab_L} {st : List Value} {w : ab_W} (h : ab_isI (ls 5) = true) : ab_Run ab_mt 220 1275 ls st w = ab_Run ab_mt 220 1277 ls (ab_gv (ls 5) :: st) w := E_loadi (n := 2) rfl h
set_option maxRecDepth 30000 in
theorem e_220_1277 {ls : ab_L} {st : List Value} {w : ab_W} {x : Int32} : ab_Run ab_mt 220 1277 ls (.int x :: st) w = if x = 0 then ab_Run ab_mt 220 1280 ls st w else ab_Run ab_mt 220 1292 ls st w := E_if_ne rfl
set_option maxRecDepth 30000 in
theorem e_220_1280 {ls : ab_L} {st : List Value} {w : ab_W} (h : ab_isR (ls 3) = true) : ab_Run ab_mt 220 1280 ls st w = ab_Run ab_mt 220 1281 ls (ab_gv (ls 3) :: st) w := E_loadr (n := 1) rfl h
set_option maxRecDepth 30000 in
theorem e_220_1281 {ls : ab_L} {st : List Value} {w : ab_W} : ab_Run ab_mt 220 1281 ls st w = ab_Run ab_mt 220 1282 ls (.int (nI 0) :: st) w := E_push (n := 1) rfl
set_option maxRecDepth 30000 in
theorem e_220_1282 {ls : ab_L} {st : List Value} {w : ab_W} {a : Nat} {i : Int32} (h : ab_inL i (w.2 a) = true) : ab_Run ab_mt 220 1282 ls (.int i :: .ref a :: st) w = ab_Run ab_mt 220 1283 ls (.long (ab_aL i.toNatClampNeg (w.2 a)) :: st) w := E_lald rfl h
set_option maxRecDepth 30000 in
theorem e_220_1283 {ls : ab_L} {st : List Value} {w : ab_W} (h : ab_isI (ls 6) = true) : ab_Run ab_mt 220 1283 ls st w = ab_Run ab_mt 220 1285 ls (ab_gv (ls 6) :: st) w := E_loadi (n := 2) rfl h
set_option maxRecDepth 30000 in
theorem e_220_1285 {ls : ab_L} {st : List Value} {w : ab_W} {x : Int32} : ab_Run ab_mt 220 1285 ls (.int x :: st) w = ab_Run ab_mt 220 1286 ls (.long x.toInt64 :: st) w := E_i2l rfl
set_option maxRecDepth 30000 in
theorem e_220_1286 {ls : ab_L} {st : List Value} {w : ab_W} {x y : Int64} : ab_Run ab_mt 220 1286 ls (.long y :: .long x :: st) w = ab_Run ab_mt 220 1287 ls (.int (lg_cmp x y) :: st) w := E_lcmp rfl
set_option maxRecDepth 30000 in
theorem e_220_1287 {ls : ab_L} {st : List Value} {w : ab_W} {x : Int32} : ab_Run ab_mt 220 1287 ls (.int x :: st) w = if x = 0 then ab_Run ab_mt 220 1292 ls st w else ab_Run ab_mt 220 1290 ls st w := E_if_eq rfl
set_option maxRecDepth 30000 in
theorem e_220_1290 {ls : ab_L} {st : List Value} {w : ab_W} : ab_Run ab_mt 220 1290 ls st w = ab_Run ab_mt 220 1291 ls (.int (nI 0) :: st) w := E_push (n := 1) rfl
set_option maxRecDepth 30000 in
theorem e_220_1291 {ls : ab_L} {w : ab_W} {x : Int32} (h : ab_fitr 2 (.int x) = true) : ab_Run ab_mt 220 1291 ls [.int x] w = some (.inl (some (.int x)), w) := E_retz rfl h
set_option maxRecDepth 30000 in
theorem e_220_1292 {ls : ab_L} {st : List Value} {w : ab_W} : ab_Run ab_mt 220 1292 ls st w = ab_Run ab_mt 220 2053 ls st w := E_goto rfl
set_option maxRecDepth 30000 in
theorem e_220_1295 {ls : ab_L} {st : List Value} {w : ab_W} (h : ab_isR (ls 1) = true) : ab_Run ab_mt 220 1295 ls st w = ab_Run ab_mt 220 1296 ls (ab_gv (ls 1) :: st) w := E_loadr (n := 1) rfl h
set_option maxRecDepth 30000 in
theorem e_220_1296 {ls : ab_L} {st : List Value} {w : ab_W} (h : ab_isR (ls 0) = true) : ab_Run ab_mt 220 1296 ls st w = ab_Run ab_mt 220 1297 ls (ab_gv (ls 0) :: st) w := E_loadr (n := 1) rfl h
set_option maxRecDepth 30000 in
theorem e_220_1297 {ls : ab_L} {st : List Value} {w : ab_W} (h : ab_isI (ls 4) = true) : ab_Run ab_mt 220 1297 ls st w = ab_Run ab_mt 220 1299 ls (ab_gv (ls 4) :: st) w := E_loadi (n := 2) rfl h
set_option maxRecDepth 30000 in
theorem e_220_1299 {ls : ab_L} {st : List Value} {w : ab_W} : ab_Run ab_mt 220 1299 ls st w = ab_Run ab_mt 220 1300 ls (.int (nI 1) :: st) w := E_push (n := 1) rfl
set_option maxRecDepth 30000 in
theorem e_220_1300 {ls : ab_L} {st : List Value} {w : ab_W} {x y : Int32} : ab_Run ab_mt 220 1300 ls (.int y :: .int x :: st) w = ab_Run ab_mt 220 1301 ls (.int (x + y) :: st) w := E_ib (f := fun x y => x + y) rfl
set_option maxRecDepth 30000 in
theorem e_220_1301 {ls : ab_L} {st : List Value} {w : ab_W} {a : Nat} {i : Int32} (h : ab_inI i (w.2 a) = true) : ab_Run ab_mt 220 1301 ls (.int i :: .ref a :: st) w = ab_Run ab_mt 220 1302 ls (.int (ab_aI i.toNatClampNeg (w.2 a)) :: st) w := E_iald rfl h
set_option maxRecDepth 30000 in
theorem e_220_1302 {ls : ab_L} {st : List Value} {w : ab_W} (h : ab_isR (ls 0) = true) : ab_Run ab_mt 220 1302 ls st w = ab_Run ab_mt 220 1303 ls (ab_gv (ls 0) :: st) w := E_loadr (n := 1) rfl h
set_option maxRecDepth 30000 in
theorem e_220_1303 {ls : ab_L} {st : List Value} {w : ab_W} (h : ab_isI (ls 4) = true) : ab_Run ab_mt 220 1303 ls st w = ab_Run ab_mt 220 1305 ls (ab_gv (ls 4) :: st) w := E_loadi (n := 2) rfl h
set_option maxRecDepth 30000 in
theorem e_220_1305 {ls : ab_L} {st : List Value} {w : ab_W} : ab_Run ab_mt 220 1305 ls st w = ab_Run ab_mt 220 1306 ls (.int (nI 2) :: st) w := E_push (n := 1) rfl
set_option maxRecDepth 30000 in
theorem e_220_1306 {ls : ab_L} {st : List Value} {w : ab_W} {x y : Int32} : ab_Run ab_mt 220 1306 ls (.int y :: .int x :: st) w = ab_Run ab_mt 220 1307 ls (.int (x + y) :: st) w := E_ib (f := fun x y => x + y) rfl
set_option maxRecDepth 30000 in
theorem e_220_1307 {ls : ab_L} {st : List Value} {w : ab_W} {a : Nat} {i : Int32} (h : ab_inI i (w.2 a) = true) : ab_Run ab_mt 220 1307 ls (.int i :: .ref a :: st) w = ab_Run ab_mt 220 1308 ls (.int (ab_aI i.toNatClampNeg (w.2 a)) :: st) w := E_iald rfl h
set_option maxRecDepth 30000 in
theorem e_220_1308 {ls : ab_L} {st : List Value} {w : ab_W} (h : ab_isR (ls 3) = true) : ab_Run ab_mt 220 1308 ls st w = ab_Run ab_mt 220 1309 ls (ab_gv (ls 3) :: st) w := E_loadr (n := 1) rfl h
set_option maxRecDepth 30000 in
theorem e_220_1309 {ls : ab_L} {st : List Value} {w : ab_W} {v0 v1 v2 v3 : Value} (h1 : ab_recv ab_mt 211 [v0, v1, v2, v3] w.2 = true) (h8 : ab_w8 st = true) : ab_Run ab_mt 220 1309 ls (v3 :: v2 :: v1 :: v0 :: st) w = ab_aft 211 220 1309 ls st (ab_Cl 211 [v0, v1, v2, v3] w) := E_call4 rfl h1 h8
set_option maxRecDepth 30000 in
theorem e_220_1312 {ls : ab_L} {st : List Value} {w : ab_W} {x : Int32} : ab_Run ab_mt 220 1312 ls (.int x :: st) w = ab_Run ab_mt 220 1314 (ab_l1 ls 5 (.int x)) st w := E_stori (n := 2) rfl
set_option maxRecDepth 30000 in
theorem e_220_1314 {ls : ab_L} {st : List Value} {w : ab_W} (h : ab_isR (ls 2) = true) : ab_Run ab_mt 220 1314 ls st w = ab_Run ab_mt 220 1315 ls (ab_gv (ls 2) :: st) w := E_loadr (n := 1) rfl h
set_option maxRecDepth 30000 in
theorem e_220_1315 {ls : ab_L} {st : List Value} {w : ab_W} (h : ab_isR (ls 0) = true) : ab_Run ab_mt 220 1315 ls st w = ab_Run ab_mt 220 1316 ls (ab_gv (ls 0) :: st) w := E_loadr (n := 1) rfl h
set_option maxRecDepth 30000 in
theorem e_220_1316 {ls : ab_L} {st : List Value} {w : ab_W} (h : ab_isI (ls 4) = true) : ab_Run ab_mt 220 1316 ls st w = ab_Run ab_mt 220 1318 ls (ab_gv (ls 4) :: st) w := E_loadi (n := 2) rfl h
set_option maxRecDepth 30000 in
theorem e_220_1318 {ls : ab_L} {st : List Value} {w : ab_W} : ab_Run ab_mt 220 1318 ls st w = ab_Run ab_mt 220 1319 ls (.int (nI 1) :: st) w := E_push (n := 1) rfl
set_option maxRecDepth 30000 in
theorem e_220_1319 {ls : ab_L} {st : List Value} {w : ab_W} {x y : Int32} : ab_Run ab_mt 220 1319 ls (.int y :: .int x :: st) w = ab_Run ab_mt 220 1320 ls (.int (x + y) :: st) w := E_ib (f := fun x y => x + y) rfl
set_option maxRecDepth 30000 in
theorem e_220_1320 {ls : ab_L} {st : List Value} {w : ab_W} {a : Nat} {i : Int32} (h : ab_inI i (w.2 a) = true) : ab_Run ab_mt 220 1320 ls (.int i :: .ref a :: st) w = ab_Run ab_mt 220 1321 ls (.int (ab_aI i.toNatClampNeg (w.2 a)) :: st) w := E_iald rfl h
set_option maxRecDepth 30000 in
theorem e_220_1321 {ls : ab_L} {st : List Value} {w : ab_W} (h : ab_isR (ls 0) = true) : ab_Run ab_mt 220 1321 ls st w = ab_Run ab_mt 220 1322 ls (ab_gv (ls 0) :: st) w := E_loadr (n := 1) rfl h
set_option maxRecDepth 30000 in
theorem e_220_1322 {ls : ab_L} {st : List Value} {w : ab_W} (h : ab_isI (ls 4) = true) : ab_Run ab_mt 220 1322 ls st w = ab_Run ab_mt 220 1324 ls (ab_gv (ls 4) :: st) w := E_loadi (n := 2) rfl h
set_option maxRecDepth 30000 in
theorem e_220_1324 {ls : ab_L} {st : List Value} {w : ab_W} : ab_Run ab_mt 220 1324 ls st w = ab_Run ab_mt 220 1325 ls (.int (nI 2) :: st) w := E_push (n := 1) rfl
set_option maxRecDepth 30000 in
theorem e_220_1325 {ls : ab_L} {st : List Value} {w : ab_W} {x y : Int32} : ab_Run ab_mt 220 1325 ls (.int y :: .int x :: st) w = ab_Run ab_mt 220 1326 ls (.int (x + y) :: st) w := E_ib (f := fun x y => x + y) rfl
set_option maxRecDepth 30000 in
theorem e_220_1326 {ls : ab_L} {st : List Value} {w : ab_W} {a : Nat} {i : Int32} (h : ab_inI i (w.2 a) = true) : ab_Run ab_mt 220 1326 ls (.int i :: .ref a :: st) w = ab_Run ab_mt 220 1327 ls (.int (ab_aI i.toNatClampNeg (w.2 a)) :: st) w := E_iald rfl h
set_option maxRecDepth 30000 in
theorem e_220_1327 {ls : ab_L} {st : List Value} {w : ab_W} {v0 v1 v2 : Value} (h1 : ab_recv ab_mt 171 [v0, v1, v2] w.2 = true) (h8 : ab_w8 st = true) : ab_Run ab_mt 220 1327 ls (v2 :: v1 :: v0 :: st) w = ab_aft 171 220 1327 ls st (ab_Cl 171 [v0, v1, v2] w) := E_call3 rfl h1 h8
set_option maxRecDepth 30000 in
theorem e_220_1330 {ls : ab_L} {st : List Value} {w : ab_W} {x : Int64} : ab_Run ab_mt 220 1330 ls (.long x :: st) w = ab_Run ab_mt 220 1332 (ab_l2 ls 6 (.long x)) st w := E_storl (n := 2) rfl
set_option maxRecDepth 30000 in
theorem e_220_1332 {ls : ab_L} {st : List Value} {w : ab_W} (h : ab_isR (ls 2) = true) : ab_Run ab_mt 220 1332 ls st w = ab_Run ab_mt 220 1333 ls (ab_gv (ls 2) :: st) w := E_loadr (n := 1) rfl h
set_option maxRecDepth 30000 in
theorem e_220_1333 {ls : ab_L} {st : List Value} {w : ab_W} {v0 : Value} (h1 : ab_recv ab_mt 106 [v0] w.2 = true) (h8 : ab_w8 st = true) : ab_Run ab_mt 220 1333 ls (v0 :: st) w = ab_aft 106 220 1333 ls st (ab_Cl 106 [v0] w) := E_call1 rfl h1 h8
set_option maxRecDepth 30000 in
theorem e_220_1336 {ls : ab_L} {st : List Value} {w : ab_W} (h : ab_isI (ls 5) = true) : ab_Run ab_mt 220 1336 ls st w = ab_Run ab_mt 220 1338 ls (ab_gv (ls 5) :: st) w := E_loadi (n := 2) rfl h
set_option maxRecDepth 30000 in
theorem e_220_1338 {ls : ab_L} {st : List Value} {w : ab_W} {x y : Int32} : ab_Run ab_mt 220 1338 ls (.int y :: .int x :: st) w = if x = y then ab_Run ab_mt 220 1343 ls st w else ab_Run ab_mt 220 1341 ls st w := E_ic_eq rfl
set_option maxRecDepth 30000 in
theorem e_220_1341 {ls : ab_L} {st : List Value} {w : ab_W} : ab_Run ab_mt 220 1341 ls st w = ab_Run ab_mt 220 1342 ls (.int (nI 0) :: st) w := E_push (n := 1) rfl
set_option maxRecDepth 30000 in
theorem e_220_1342 {ls : ab_L} {w : ab_W} {x : Int32} (h : ab_fitr 2 (.int x) = true) : ab_Run ab_mt 220 1342 ls [.int x] w = some (.inl (some (.int x)), w) := E_retz rfl h
set_option maxRecDepth 30000 in
theorem e_220_1343 {ls : ab_L} {st : List Value} {w : ab_W} (h : ab_isI (ls 5) = true) : ab_Run ab_mt 220 1343 ls st w = ab_Run ab_mt 220 1345 ls (ab_gv (ls 5) :: st) w := E_loadi (n := 2) rfl h
set_option maxRecDepth 30000 in
theorem e_220_1345 {ls : ab_L} {st : List Value} {w : ab_W} {x : Int32} : ab_Run ab_mt 220 1345 ls (.int x :: st) w = if x = 0 then ab_Run ab_mt 220 1348 ls st w else ab_Run ab_mt 220 1359 ls st w := E_if_ne rfl
set_option maxRecDepth 30000 in
theorem e_220_1348 {ls : ab_L} {st : List Value} {w : ab_W} (h : ab_isR (ls 3) = true) : ab_Run ab_mt 220 1348 ls st w = ab_Run ab_mt 220 1349 ls (ab_gv (ls 3) :: st) w := E_loadr (n := 1) rfl h
set_option maxRecDepth 30000 in
theorem e_220_1349 {ls : ab_L} {st : List Value} {w : ab_W} : ab_Run ab_mt 220 1349 ls st w = ab_Run ab_mt 220 1350 ls (.int (nI 0) :: st) w := E_push (n := 1) rfl
set_option maxRecDepth 30000 in
theorem e_220_1350 {ls : ab_L} {st : List Value} {w : ab_W} {a : Nat} {i : Int32} (h : ab_inL i (w.2 a) = true) : ab_Run ab_mt 220 1350 ls (.int i :: .ref a :: st) w = ab_Run ab_mt 220 1351 ls (.long (ab_aL i.toNatClampNeg (w.2 a)) :: st) w := E_lald rfl h
set_option maxRecDepth 30000 in
theorem e_220_1351 {ls : ab_L} {st : List Value} {w : ab_W} (h : ab_isL (ls 6) = true) (h2 : (ls 7).isNone = true) : ab_Run ab_mt 220 1351 ls st w = ab_Run ab_mt 220 1353 ls (ab_gv (ls 6) :: st) w := E_loadl (n := 2) rfl h h2
set_option maxRecDepth 30000 in
theorem e_220_1353 {ls : ab_L} {st : List Value} {w : ab_W} {x y : Int64} : ab_Run ab_mt 220 1353 ls (.long y :: .long x :: st) w = ab_Run ab_mt 220 1354 ls (.int (lg_cmp x y) :: st) w := E_lcmp rfl
set_option maxRecDepth 30000 in
theorem e_220_1354 {ls : ab_L} {st : List Value} {w : ab_W} {x : Int32} : ab_Run ab_mt 220 1354 ls (.int x :: st) w = if x = 0 then ab_Run ab_mt 220 1359 ls st w else ab_Run ab_mt 220 1357 ls st w := E_if_eq rfl
set_option maxRecDepth 30000 in
theorem e_220_1357 {ls : ab_L} {st : List Value} {w : ab_W} : ab_Run ab_mt 220 1357 ls st w = ab_Run ab_mt 220 1358 ls (.int (nI 0) :: st) w := E_push (n := 1) rfl
set_option maxRecDepth 30000 in
theorem e_220_1358 {ls : ab_L} {w : ab_W} {x : Int32} (h : ab_fitr 2 (.int x) = true) : ab_Run ab_mt 220 1358 ls [.int x] w = some (.inl (some (.int x)), w) := E_retz rfl h
set_option maxRecDepth 30000 in
theorem e_220_1359 {ls : ab_L} {st : List Value} {w : ab_W} : ab_Run ab_mt 220 1359 ls st w = ab_Run ab_mt 220 2053 ls st w := E_goto rfl
set_option maxRecDepth 30000 in
theorem e_220_1362 {ls : ab_L} {st : List Value} {w : ab_W} (h : ab_isR (ls 1) = true) : ab_Run ab_mt 220 1362 ls st w = ab_Run ab_mt 220 1363 ls (ab_gv (ls 1) :: st) w := E_loadr (n := 1) rfl h
set_option maxRecDepth 30000 in
theorem e_220_1363 {ls : ab_L} {st : List Value} {w : ab_W} (h : ab_isR (ls 0) = true) : ab_Run ab_mt 220 1363 ls st w = ab_Run ab_mt 220 1364 ls (ab_gv (ls 0) :: st) w := E_loadr (n := 1) rfl h
set_option maxRecDepth 30000 in
theorem e_220_1364 {ls : ab_L} {st : List Value} {w : ab_W} (h : ab_isI (ls 4) = true) : ab_Run ab_mt 220 1364 ls st w = ab_Run ab_mt 220 1366 ls (ab_gv (ls 4) :: st) w := E_loadi (n := 2) rfl h
set_option maxRecDepth 30000 in
theorem e_220_1366 {ls : ab_L} {st : List Value} {w : ab_W} : ab_Run ab_mt 220 1366 ls st w = ab_Run ab_mt 220 1367 ls (.int (nI 1) :: st) w := E_push (n := 1) rfl
set_option maxRecDepth 30000 in
theorem e_220_1367 {ls : ab_L} {st : List Value} {w : ab_W} {x y : Int32} : ab_Run ab_mt 220 1367 ls (.int y :: .int x :: st) w = ab_Run ab_mt 220 1368 ls (.int (x + y) :: st) w := E_ib (f := fun x y => x + y) rfl
set_option maxRecDepth 30000 in
theorem e_220_1368 {ls : ab_L} {st : List Value} {w : ab_W} {a : Nat} {i : Int32} (h : ab_inI i (w.2 a) = true) : ab_Run ab_mt 220 1368 ls (.int i :: .ref a :: st) w = ab_Run ab_mt 220 1369 ls (.int (ab_aI i.toNatClampNeg (w.2 a)) :: st) w := E_iald rfl h
set_option maxRecDepth 30000 in
theorem e_220_1369 {ls : ab_L} {st : List Value} {w : ab_W} (h : ab_isR (ls 0) = true) : ab_Run ab_mt 220 1369 ls st w = ab_Run ab_mt 220 1370 ls (ab_gv (ls 0) :: st) w := E_loadr (n := 1) rfl h
set_option maxRecDepth 30000 in
theorem e_220_1370 {ls : ab_L} {st : List Value} {w : ab_W} (h : ab_isI (ls 4) = true) : ab_Run ab_mt 220 1370 ls st w = ab_Run ab_mt 220 1372 ls (ab_gv (ls 4) :: st) w := E_loadi (n := 2) rfl h
set_option maxRecDepth 30000 in
theorem e_220_1372 {ls : ab_L} {st : List Value} {w : ab_W} : ab_Run ab_mt 220 1372 ls st w = ab_Run ab_mt 220 1373 ls (.int (nI 2) :: st) w := E_push (n := 1) rfl
set_option maxRecDepth 30000 in
theorem e_220_1373 {ls : ab_L} {st : List Value} {w : ab_W} {x y : Int32} : ab_Run ab_mt 220 1373 ls (.int y :: .int x :: st) w = ab_Run ab_mt 220 1374 ls (.int (x + y) :: st) w := E_ib (f := fun x y => x + y) rfl
set_option maxRecDepth 30000 in
theorem e_220_1374 {ls : ab_L} {st : List Value} {w : ab_W} {a : Nat} {i : Int32} (h : ab_inI i (w.2 a) = true) : ab_Run ab_mt 220 1374 ls (.int i :: .ref a :: st) w = ab_Run ab_mt 220 1375 ls (.int (ab_aI i.toNatClampNeg (w.2 a)) :: st) w := E_iald rfl h
set_option maxRecDepth 30000 in
theorem e_220_1375 {ls : ab_L} {st : List Value} {w : ab_W} (h : ab_isR (ls 3) = true) : ab_Run ab_mt 220 1375 ls st w = ab_Run ab_mt 220 1376 ls (ab_gv (ls 3) :: st) w := E_loadr (n := 1) rfl h
set_option maxRecDepth 30000 in
theorem e_220_1376 {ls : ab_L} {st : List Value} {w : ab_W} {v0 v1 v2 v3 : Value} (h1 : ab_recv ab_mt 212 [v0, v1, v2, v3] w.2 = true) (h8 : ab_w8 st = true) : ab_Run ab_mt 220 1376 ls (v3 :: v2 :: v1 :: v0 :: st) w = ab_aft 212 220 1376 ls st (ab_Cl 212 [v0, v1, v2, v3] w) := E_call4 rfl h1 h8
set_option maxRecDepth 30000 in
theorem e_220_1379 {ls : ab_L} {st : List Value} {w : ab_W} {x : Int32} : ab_Run ab_mt 220 1379 ls (.int x :: st) w = ab_Run ab_mt 220 1381 (ab_l1 ls 5 (.int x)) st w := E_stori (n := 2) rfl
set_option maxRecDepth 30000 in
theorem e_220_1381 {ls : ab_L} {st : List Value} {w : ab_W} (h : ab_isR (ls 2) = true) : ab_Run ab_mt 220 1381 ls st w = ab_Run ab_mt 220 1382 ls (ab_gv (ls 2) :: st) w := E_loadr (n := 1) rfl h
set_option maxRecDepth 30000 in
theorem e_220_1382 {ls : ab_L} {st : List Value} {w : ab_W} (h : ab_isR (ls 0) = true) : ab_Run ab_mt 220 1382 ls st w = ab_Run ab_mt 220 1383 ls (ab_gv (ls 0) :: st) w := E_loadr (n := 1) rfl h
set_option maxRecDepth 30000 in
theorem e_220_1383 {ls : ab_L} {st : List Value} {w : ab_W} (h : ab_isI (ls 4) = true) : ab_Run ab_mt 220 1383 ls st w = ab_Run ab_mt 220 1385 ls (ab_gv (ls 4) :: st) w := E_loadi (n := 2) rfl h
set_option maxRecDepth 30000 in
theorem e_220_1385 {ls : ab_L} {st : List Value} {w : ab_W} : ab_Run ab_mt 220 1385 ls st w = ab_Run ab_mt 220 1386 ls (.int (nI 1) :: st) w := E_push (n := 1) rfl
set_option maxRecDepth 30000 in
theorem e_220_1386 {ls : ab_L} {st : List Value} {w : ab_W} {x y : Int32} : ab_Run ab_mt 220 1386 ls (.int y :: .int x :: st) w = ab_Run ab_mt 220 1387 ls (.int (x + y) :: st) w := E_ib (f := fun x y => x + y) rfl
set_option maxRecDepth 30000 in
theorem e_220_1387 {ls : ab_L} {st : List Value} {w : ab_W} {a : Nat} {i : Int32} (h : ab_inI i (w.2 a) = true) : ab_Run ab_mt 220 1387 ls (.int i :: .ref a :: st) w = ab_Run ab_mt 220 1388 ls (.int (ab_aI i.toNatClampNeg (w.2 a)) :: st) w := E_iald rfl h
set_option maxRecDepth 30000 in
theorem e_220_1388 {ls : ab_L} {st : List Value} {w : ab_W} (h : ab_isR (ls 0) = true) : ab_Run ab_mt 220 1388 ls st w = ab_Run ab_mt 220 1389 ls (ab_gv (ls 0) :: st) w := E_loadr (n := 1) rfl h
set_option maxRecDepth 30000 in
theorem e_220_1389 {ls : ab_L} {st : List Value} {w : ab_W} (h : ab_isI (ls 4) = true) : ab_Run ab_mt 220 1389 ls st w = ab_Run ab_mt 220 1391 ls (ab_gv (ls 4) :: st) w := E_loadi (n := 2) rfl h
set_option maxRecDepth 30000 in
theorem e_220_1391 {ls : ab_L} {st : List Value} {w : ab_W} : ab_Run ab_mt 220 1391 ls st w = ab_Run ab_mt 220 1392 ls (.int (nI 2) :: st) w := E_push (n := 1) rfl
set_option maxRecDepth 30000 in
theorem e_220_1392 {ls : ab_L} {st : List Value} {w : ab_W} {x y : Int32} : ab_Run ab_mt 220 1392 ls (.int y :: .int x :: st) w = ab_Run ab_mt 220 1393 ls (.int (x + y) :: st) w := E_ib (f := fun x y => x + y) rfl
set_option maxRecDepth 30000 in
theorem e_220_1393 {ls : ab_L} {st : List Value} {w : ab_W} {a : Nat} {i : Int32} (h : ab_inI i (w.2 a) = true) : ab_Run ab_mt 220 1393 ls (.int i :: .ref a :: st) w = ab_Run ab_mt 220 1394 ls (.int (ab_aI i.toNatClampNeg (w.2 a)) :: st) w := E_iald rfl h
set_option maxRecDepth 30000 in
theorem e_220_1394 {ls : ab_L} {st : List Value} {w : ab_W} {v0 v1 v2 : Value} (h1 : ab_recv ab_mt 172 [v0, v1, v2] w.2 = true) (h8 : ab_w8 st = true) : ab_Run ab_mt 220 1394 ls (v2 :: v1 :: v0 :: st) w = ab_aft 172 220 1394 ls st (ab_Cl 172 [v0, v1, v2] w) := E_call3 rfl h1 h8
set_option maxRecDepth 30000 in
theorem e_220_1397 {ls : ab_L} {st : List Value} {w : ab_W} {x : Int64} : ab_Run ab_mt 220 1397 ls (.long x :: st) w = ab_Run ab_mt 220 1399 (ab_l2 ls 6 (.long x)) st w := E_storl (n := 2) rfl
set_option maxRecDepth 30000 in
theorem e_220_1399 {ls : ab_L} {st : List Value} {w : ab_W} (h : ab_isR (ls 2) = true) : ab_Run ab_mt 220 1399 ls st w = ab_Run ab_mt 220 1400 ls (ab_gv (ls 2) :: st) w := E_loadr (n := 1) rfl h
set_option maxRecDepth 30000 in
theorem e_220_1400 {ls : ab_L} {st : List Value} {w : ab_W} {v0 : Value} (h1 : ab_recv ab_mt 106 [v0] w.2 = true) (h8 : ab_w8 st = true) : ab_Run ab_mt 220 1400 ls (v0 :: st) w = ab_aft 106 220 1400 ls st (ab_Cl 106 [v0] w) := E_call1 rfl h1 h8
set_option maxRecDepth 30000 in
theorem e_220_1403 {ls : ab_L} {st : List Value} {w : ab_W} (h : ab_isI (ls 5) = true) : ab_Run ab_mt 220 1403 ls st w = ab_Run ab_mt 220 1405 ls (ab_gv (ls 5) :: st) w := E_loadi (n := 2) rfl h
set_option maxRecDepth 30000 in
theorem e_220_1405 {ls : ab_L} {st : List Value} {w : ab_W} {x y : Int32} : ab_Run ab_mt 220 1405 ls (.int y :: .int x :: st) w = if x = y then ab_Run ab_mt 220 1410 ls st w else ab_Run ab_mt 220 1408 ls st w := E_ic_eq rfl
set_option maxRecDepth 30000 in
theorem e_220_1408 {ls : ab_L} {st : List Value} {w : ab_W} : ab_Run ab_mt 220 1408 ls st w = ab_Run ab_mt 220 1409 ls (.int (nI 0) :: st) w := E_push (n := 1) rfl
set_option maxRecDepth 30000 in
theorem e_220_1409 {ls : ab_L} {w : ab_W} {x : Int32} (h : ab_fitr 2 (.int x) = true) : ab_Run ab_mt 220 1409 ls [.int x] w = some (.inl (some (.int x)), w) := E_retz rfl h
set_option maxRecDepth 30000 in
theorem e_220_1410 {ls : ab_L} {st : List Value} {w : ab_W} (h : ab_isI (ls 5) = true) : ab_Run ab_mt 220 1410 ls st w = ab_Run ab_mt 220 1412 ls (ab_gv (ls 5) :: st) w := E_loadi (n := 2) rfl h
set_option maxRecDepth 30000 in
theorem e_220_1412 {ls : ab_L} {st : List Value} {w : ab_W} {x : Int32} : ab_Run ab_mt 220 1412 ls (.int x :: st) w = if x = 0 then ab_Run ab_mt 220 1415 ls st w else ab_Run ab_mt 220 1426 ls st w := E_if_ne rfl
set_option maxRecDepth 30000 in
theorem e_220_1415 {ls : ab_L} {st : List Value} {w : ab_W} (h : ab_isR (ls 3) = true) : ab_Run ab_mt 220 1415 ls st w = ab_Run ab_mt 220 1416 ls (ab_gv (ls 3) :: st) w := E_loadr (n := 1) rfl h
set_option maxRecDepth 30000 in
theorem e_220_1416 {ls : ab_L} {st : List Value} {w : ab_W} : ab_Run ab_mt 220 1416 ls st w = ab_Run ab_mt 220 1417 ls (.int (nI 0) :: st) w := E_push (n := 1) rfl
set_option maxRecDepth 30000 in
theorem e_220_1417 {ls : ab_L} {st : List Value} {w : ab_W} {a : Nat} {i : Int32} (h : ab_inL i (w.2 a) = true) : ab_Run ab_mt 220 1417 ls (.int i :: .ref a :: st) w = ab_Run ab_mt 220 1418 ls (.long (ab_aL i.toNatClampNeg (w.2 a)) :: st) w := E_lald rfl h
set_option maxRecDepth 30000 in
theorem e_220_1418 {ls : ab_L} {st : List Value} {w : ab_W} (h : ab_isL (ls 6) = true) (h2 : (ls 7).isNone = true) : ab_Run ab_mt 220 1418 ls st w = ab_Run ab_mt 220 1420 ls (ab_gv (ls 6) :: st) w := E_loadl (n := 2) rfl h h2
set_option maxRecDepth 30000 in
theorem e_220_1420 {ls : ab_L} {st : List Value} {w : ab_W} {x y : Int64} : ab_Run ab_mt 220 1420 ls (.long y :: .long x :: st) w = ab_Run ab_mt 220 1421 ls (.int (lg_cmp x y) :: st) w := E_lcmp rfl
set_option maxRecDepth 30000 in
theorem e_220_1421 {ls : ab_L} {st : List Value} {w : ab_W} {x : Int32} : ab_Run ab_mt 220 1421 ls (.int x :: st) w = if x = 0 then ab_Run ab_mt 220 1426 ls st w else ab_Run ab_mt 220 1424 ls st w := E_if_eq rfl
set_option maxRecDepth 30000 in
theorem e_220_1424 {ls : ab_L} {st : List Value} {w : ab_W} : ab_Run ab_mt 220 1424 ls st w = ab_Run ab_mt 220 1425 ls (.int (nI 0) :: st) w := E_push (n := 1) rfl
set_option maxRecDepth 30000 in
theorem e_220_1425 {ls : ab_L} {w : ab_W} {x : Int32} (h : ab_fitr 2 (.int x) = true) : ab_Run ab_mt 220 1425 ls [.int x] w = some (.inl (some (.int x)), w) := E_retz rfl h
set_option maxRecDepth 30000 in
theorem e_220_1426 {ls : ab_L} {st : List Value} {w : ab_W} : ab_Run ab_mt 220 1426 ls st w = ab_Run ab_mt 220 2053 ls st w := E_goto rfl
set_option maxRecDepth 30000 in
theorem e_220_1429 {ls : ab_L} {st : List Value} {w : ab_W} (h : ab_isR (ls 1) = true) : ab_Run ab_mt 220 1429 ls st w = ab_Run ab_mt 220 1430 ls (ab_gv (ls 1) :: st) w := E_loadr (n := 1) rfl h
set_option maxRecDepth 30000 in
theorem e_220_1430 {ls : ab_L} {st : List Value} {w : ab_W} (h : ab_isR (ls 0) = true) : ab_Run ab_mt 220 1430 ls st w = ab_Run ab_mt 220 1431 ls (ab_gv (ls 0) :: st) w := E_loadr (n := 1) rfl h
set_option maxRecDepth 30000 in
theorem e_220_1431 {ls : ab_L} {st : List Value} {w : ab_W} (h : ab_isI (ls 4) = true) : ab_Run ab_mt 220 1431 ls st w = ab_Run ab_mt 220 1433 ls (ab_gv (ls 4) :: st) w := E_loadi (n := 2) rfl h
set_option maxRecDepth 30000 in
theorem e_220_1433 {ls : ab_L} {st : List Value} {w : ab_W} : ab_Run ab_mt 220 1433 ls st w = ab_Run ab_mt 220 1434 ls (.int (nI 1) :: st) w := E_push (n := 1) rfl
set_option maxRecDepth 30000 in
theorem e_220_1434 {ls : ab_L} {st : List Value} {w : ab_W} {x y : Int32} : ab_Run ab_mt 220 1434 ls (.int y :: .int x :: st) w = ab_Run ab_mt 220 1435 ls (.int (x + y) :: st) w := E_ib (f := fun x y => x + y) rfl
set_option maxRecDepth 30000 in
theorem e_220_1435 {ls : ab_L} {st : List Value} {w : ab_W} {a : Nat} {i : Int32} (h : ab_inI i (w.2 a) = true) : ab_Run ab_mt 220 1435 ls (.int i :: .ref a :: st) w = ab_Run ab_mt 220 1436 ls (.int (ab_aI i.toNatClampNeg (w.2 a)) :: st) w := E_iald rfl h
set_option maxRecDepth 30000 in
theorem e_220_1436 {ls : ab_L} {st : List Value} {w : ab_W} (h : ab_isR (ls 0) = true) : ab_Run ab_mt 220 1436 ls st w = ab_Run ab_mt 220 1437 ls (ab_gv (ls 0) :: st) w := E_loadr (n := 1) rfl h
set_option maxRecDepth 30000 in
theorem e_220_1437 {ls : ab_L} {st : List Value} {w : ab_W} (h : ab_isI (ls 4) = true) : ab_Run ab_mt 220 1437 ls st w = ab_Run ab_mt 220 1439 ls (ab_gv (ls 4) :: st) w := E_loadi (n := 2) rfl h
set_option maxRecDepth 30000 in
theorem e_220_1439 {ls : ab_L} {st : List Value} {w : ab_W} : ab_Run ab_mt 220 1439 ls st w = ab_Run ab_mt 220 1440 ls (.int (nI 2) :: st) w := E_push (n := 1) rfl
set_option maxRecDepth 30000 in
theorem e_220_1440 {ls : ab_L} {st : List Value} {w : ab_W} {x y : Int32} : ab_Run ab_mt 220 1440 ls (.int y :: .int x :: st) w = ab_Run ab_mt 220 1441 ls (.int (x + y) :: st) w := E_ib (f := fun x y => x + y) rfl
set_option maxRecDepth 30000 in
theorem e_220_1441 {ls : ab_L} {st : List Value} {w : ab_W} {a : Nat} {i : Int32} (h : ab_inI i (w.2 a) = true) : ab_Run ab_mt 220 1441 ls (.int i :: .ref a :: st) w = ab_Run ab_mt 220 1442 ls (.int (ab_aI i.toNatClampNeg (w.2 a)) :: st) w := E_iald rfl h
set_option maxRecDepth 30000 in
theorem e_220_1442 {ls : ab_L} {st : List Value} {w : ab_W} (h : ab_isR (ls 3) = true) : ab_Run ab_mt 220 1442 ls st w = ab_Run ab_mt 220 1443 ls (ab_gv (ls 3) :: st) w := E_loadr (n := 1) rfl h
set_option maxRecDepth 30000 in
theorem e_220_1443 {ls : ab_L} {st : List Value} {w : ab_W} {v0 v1 v2 v3 : Value} (h1 : ab_recv ab_mt 213 [v0, v1, v2, v3] w.2 = true) (h8 : ab_w8 st = true) : ab_Run ab_mt 220 1443 ls (v3 :: v2 :: v1 :: v0 :: st) w = ab_aft 213 220 1443 ls st (ab_Cl 213 [v0, v1, v2, v3] w) := E_call4 rfl h1 h8
set_option maxRecDepth 30000 in
theorem e_220_1446 {ls : ab_L} {st : List Value} {w : ab_W} {x : Int32} : ab_Run ab_mt 220 1446 ls (.int x :: st) w = ab_Run ab_mt 220 1448 (ab_l1 ls 5 (.int x)) st w := E_stori (n := 2) rfl
set_option maxRecDepth 30000 in
theorem e_220_1448 {ls : ab_L} {st : List Value} {w : ab_W} (h : ab_isR (ls 2) = true) : ab_Run ab_mt 220 1448 ls st w = ab_Run ab_mt 220 1449 ls (ab_gv (ls 2) :: st) w := E_loadr (n := 1) rfl h
set_option maxRecDepth 30000 in
theorem e_220_1449 {ls : ab_L} {st : List Value} {w : ab_W} (h : ab_isR (ls 0) = true) : ab_Run ab_mt 220 1449 ls st w = ab_Run ab_mt 220 1450 ls (ab_gv (ls 0) :: st) w := E_loadr (n := 1) rfl h
set_option maxRecDepth 30000 in
theorem e_220_1450 {ls : ab_L} {st : List Value} {w : ab_W} (h : ab_isI (ls 4) = true) : ab_Run ab_mt 220 1450 ls st w = ab_Run ab_mt 220 1452 ls (ab_gv (ls 4) :: st) w := E_loadi (n := 2) rfl h
set_option maxRecDepth 30000 in
theorem e_220_1452 {ls : ab_L} {st : List Value} {w : ab_W} : ab_Run ab_mt 220 1452 ls st w = ab_Run ab_mt 220 1453 ls (.int (nI 1) :: st) w := E_push (n := 1) rfl
set_option maxRecDepth 30000 in
theorem e_220_1453 {ls : ab_L} {st : List Value} {w : ab_W} {x y : Int32} : ab_Run ab_mt 220 1453 ls (.int y :: .int x :: st) w = ab_Run ab_mt 220 1454 ls (.int (x + y) :: st) w := E_ib (f := fun x y => x + y) rfl
set_option maxRecDepth 30000 in
theorem e_220_1454 {ls : ab_L} {st : List Value} {w : ab_W} {a : Nat} {i : Int32} (h : ab_inI i (w.2 a) = true) : ab_Run ab_mt 220 1454 ls (.int i :: .ref a :: st) w = ab_Run ab_mt 220 1455 ls (.int (ab_aI i.toNatClampNeg (w.2 a)) :: st) w := E_iald rfl h
set_option maxRecDepth 30000 in
theorem e_220_1455 {ls : ab_L} {st : List Value} {w : ab_W} (h : ab_isR (ls 0) = true) : ab_Run ab_mt 220 1455 ls st w = ab_Run ab_mt 220 1456 ls (ab_gv (ls 0) :: st) w := E_loadr (n := 1) rfl h
set_option maxRecDepth 30000 in
theorem e_220_1456 {ls : ab_L} {st : List Value} {w : ab_W} (h : ab_isI (ls 4) = true) : ab_Run ab_mt 220 1456 ls st w = ab_Run ab_mt 220 1458 ls (ab_gv (ls 4) :: st) w := E_loadi (n := 2) rfl h
set_option maxRecDepth 30000 in
theorem e_220_1458 {ls : ab_L} {st : List Value} {w : ab_W} : ab_Run ab_mt 220 1458 ls st w = ab_Run ab_mt 220 1459 ls (.int (nI 2) :: st) w := E_push (n := 1) rfl
set_option maxRecDepth 30000 in
theorem e_220_1459 {ls : ab_L} {st : List Value} {w : ab_W} {x y : Int32} : ab_Run ab_mt 220 1459 ls (.int y :: .int x :: st) w = ab_Run ab_mt 220 1460 ls (.int (x + y) :: st) w := E_ib (f := fun x y => x + y) rfl
set_option maxRecDepth 30000 in
theorem e_220_1460 {ls : ab_L} {st : List Value} {w : ab_W} {a : Nat} {i : Int32} (h : ab_inI i (w.2 a) = true) : ab_Run ab_mt 220 1460 ls (.int i :: .ref a :: st) w = ab_Run ab_mt 220 1461 ls (.int (ab_aI i.toNatClampNeg (w.2 a)) :: st) w := E_iald rfl h
set_option maxRecDepth 30000 in
theorem e_220_1461 {ls : ab_L} {st : List Value} {w : ab_W} {v0 v1 v2 : Value} (h1 : ab_recv ab_mt 173 [v0, v1, v2] w.2 = true) (h8 : ab_w8 st = true) : ab_Run ab_mt 220 1461 ls (v2 :: v1 :: v0 :: st) w = ab_aft 173 220 1461 ls st (ab_Cl 173 [v0, v1, v2] w) := E_call3 rfl h1 h8
set_option maxRecDepth 30000 in
theorem e_220_1464 {ls : ab_L} {st : List Value} {w : ab_W} {x : Int32} : ab_Run ab_mt 220 1464 ls (.int x :: st) w = ab_Run ab_mt 220 1466 (ab_l1 ls 6 (.int x)) st w := E_stori (n := 2) rfl
set_option maxRecDepth 30000 in
theorem e_220_1466 {ls : ab_L} {st : List Value} {w : ab_W} (h : ab_isR (ls 2) = true) : ab_Run ab_mt 220 1466 ls st w = ab_Run ab_mt 220 1467 ls (ab_gv (ls 2) :: st) w := E_loadr (n := 1) rfl h
set_option maxRecDepth 30000 in
theorem e_220_1467 {ls : ab_L} {st : List Value} {w : ab_W} {v0 : Value} (h1 : ab_recv ab_mt 106 [v0] w.2 = true) (h8 : ab_w8 st = true) : ab_Run ab_mt 220 1467 ls (v0 :: st) w = ab_aft 106 220 1467 ls st (ab_Cl 106 [v0] w) := E_call1 rfl h1 h8
set_option maxRecDepth 30000 in
theorem e_220_1470 {ls : ab_L} {st : List Value} {w : ab_W} (h : ab_isI (ls 5) = true) : ab_Run ab_mt 220 1470 ls st w = ab_Run ab_mt 220 1472 ls (ab_gv (ls 5) :: st) w := E_loadi (n := 2) rfl h
set_option maxRecDepth 30000 in
theorem e_220_1472 {ls : ab_L} {st : List Value} {w : ab_W} {x y : Int32} : ab_Run ab_mt 220 1472 ls (.int y :: .int x :: st) w = if x = y then ab_Run ab_mt 220 1477 ls st w else ab_Run ab_mt 220 1475 ls st w := E_ic_eq rfl
set_option maxRecDepth 30000 in
theorem e_220_1475 {ls : ab_L} {st : List Value} {w : ab_W} : ab_Run ab_mt 220 1475 ls st w = ab_Run ab_mt 220 1476 ls (.int (nI 0) :: st) w := E_push (n := 1) rfl
set_option maxRecDepth 30000 in
theorem e_220_1476 {ls : ab_L} {w : ab_W} {x : Int32} (h : ab_fitr 2 (.int x) = true) : ab_Run ab_mt 220 1476 ls [.int x] w = some (.inl (some (.int x)), w) := E_retz rfl h
set_option maxRecDepth 30000 in
theorem e_220_1477 {ls : ab_L} {st : List Value} {w : ab_W} (h : ab_isI (ls 5) = true) : ab_Run ab_mt 220 1477 ls st w = ab_Run ab_mt 220 1479 ls (ab_gv (ls 5) :: st) w := E_loadi (n := 2) rfl h
set_option maxRecDepth 30000 in
theorem e_220_1479 {ls : ab_L} {st : List Value} {w : ab_W} {x : Int32} : ab_Run ab_mt 220 1479 ls (.int x :: st) w = if x = 0 then ab_Run ab_mt 220 1482 ls st w else ab_Run ab_mt 220 1494 ls st w := E_if_ne rfl
set_option maxRecDepth 30000 in
theorem e_220_1482 {ls : ab_L} {st : List Value} {w : ab_W} (h : ab_isR (ls 3) = true) : ab_Run ab_mt 220 1482 ls st w = ab_Run ab_mt 220 1483 ls (ab_gv (ls 3) :: st) w := E_loadr (n := 1) rfl h
set_option maxRecDepth 30000 in
theorem e_220_1483 {ls : ab_L} {st : List Value} {w : ab_W} : ab_Run ab_mt 220 1483 ls st w = ab_Run ab_mt 220 1484 ls (.int (nI 0) :: st) w := E_push (n := 1) rfl
set_option maxRecDepth 30000 in
theorem e_220_1484 {ls : ab_L} {st : List Value} {w : ab_W} {a : Nat} {i : Int32} (h : ab_inL i (w.2 a) = true) : ab_Run ab_mt 220 1484 ls (.int i :: .ref a :: st) w = ab_Run ab_mt 220 1485 ls (.long (ab_aL i.toNatClampNeg (w.2 a)) :: st) w := E_lald rfl h
set_option maxRecDepth 30000 in
theorem e_220_1485 {ls : ab_L} {st : List Value} {w : ab_W} (h : ab_isI (ls 6) = true) : ab_Run ab_mt 220 1485 ls st w = ab_Run ab_mt 220 1487 ls (ab_gv (ls 6) :: st) w := E_loadi (n := 2) rfl h
set_option maxRecDepth 30000 in
theorem e_220_1487 {ls : ab_L} {st : List Value} {w : ab_W} {x : Int32} : ab_Run ab_mt 220 1487 ls (.int x :: st) w = ab_Run ab_mt 220 1488 ls (.long x.toInt64 :: st) w := E_i2l rfl
set_option maxRecDepth 30000 in
theorem e_220_1488 {ls : ab_L} {st : List Value} {w : ab_W} {x y : Int64} : ab_Run ab_mt 220 1488 ls (.long y :: .long x :: st) w = ab_Run ab_mt 220 1489 ls (.int (lg_cmp x y) :: st) w := E_lcmp rfl
set_option maxRecDepth 30000 in
theorem e_220_1489 {ls : ab_L} {st : List Value} {w : ab_W} {x : Int32} : ab_Run ab_mt 220 1489 ls (.int x :: st) w = if x = 0 then ab_Run ab_mt 220 1494 ls st w else ab_Run ab_mt 220 1492 ls st w := E_if_eq rfl
set_option maxRecDepth 30000 in
theorem e_220_1492 {ls : ab_L} {st : List Value} {w : ab_W} : ab_Run ab_mt 220 1492 ls st w = ab_Run ab_mt 220 1493 ls (.int (nI 0) :: st) w := E_push (n := 1) rfl
set_option maxRecDepth 30000 in
theorem e_220_1493 {ls : ab_L} {w : ab_W} {x : Int32} (h : ab_fitr 2 (.int x) = true) : ab_Run ab_mt 220 1493 ls [.int x] w = some (.inl (some (.int x)), w) := E_retz rfl h
set_option maxRecDepth 30000 in
theorem e_220_1494 {ls : ab_L} {st : List Value} {w : ab_W} : ab_Run ab_mt 220 1494 ls st w = ab_Run ab_mt 220 2053 ls st w := E_goto rfl
set_option maxRecDepth 30000 in
theorem e_220_1497 {ls : ab_L} {st : List Value} {w : ab_W} (h : ab_isR (ls 1) = true) : ab_Run ab_mt 220 1497 ls st w = ab_Run ab_mt 220 1498 ls (ab_gv (ls 1) :: st) w := E_loadr (n := 1) rfl h
set_option maxRecDepth 30000 in
theorem e_220_1498 {ls : ab_L} {st : List Value} {w : ab_W} (h : ab_isR (ls 0) = true) : ab_Run ab_mt 220 1498 ls st w = ab_Run ab_mt 220 1499 ls (ab_gv (ls 0) :: st) w := E_loadr (n := 1) rfl h
set_option maxRecDepth 30000 in
theorem e_220_1499 {ls : ab_L} {st : List Value} {w : ab_W} (h : ab_isI (ls 4) = true) : ab_Run ab_mt 220 1499 ls st w = ab_Run ab_mt 220 1501 ls (ab_gv (ls 4) :: st) w := E_loadi (n := 2) rfl h
set_option maxRecDepth 30000 in
theorem e_220_1501 {ls : ab_L} {st : List Value} {w : ab_W} : ab_Run ab_mt 220 1501 ls st w = ab_Run ab_mt 220 1502 ls (.int (nI 1) :: st) w := E_push (n := 1) rfl
set_option maxRecDepth 30000 in
theorem e_220_1502 {ls : ab_L} {st : List Value} {w : ab_W} {x y : Int32} : ab_Run ab_mt 220 1502 ls (.int y :: .int x :: st) w = ab_Run ab_mt 220 1503 ls (.int (x + y) :: st) w := E_ib (f := fun x y => x + y) rfl
set_option maxRecDepth 30000 in
theorem e_220_1503 {ls : ab_L} {st : List Value} {w : ab_W} {a : Nat} {i : Int32} (h : ab_inI i (w.2 a) = true) : ab_Run ab_mt 220 1503 ls (.int i :: .ref a :: st) w = ab_Run ab_mt 220 1504 ls (.int (ab_aI i.toNatClampNeg (w.2 a)) :: st) w := E_iald rfl h
set_option maxRecDepth 30000 in
theorem e_220_1504 {ls : ab_L} {st : List Value} {w : ab_W} (h : ab_isR (ls 0) = true) : ab_Run ab_mt 220 1504 ls st w = ab_Run ab_mt 220 1505 ls (ab_gv (ls 0) :: st) w := E_loadr (n := 1) rfl h
set_option maxRecDepth 30000 in
theorem e_220_1505 {ls : ab_L} {st : List Value} {w : ab_W} (h : ab_isI (ls 4) = true) : ab_Run ab_mt 220 1505 ls st w = ab_Run ab_mt 220 1507 ls (ab_gv (ls 4) :: st) w := E_loadi (n := 2) rfl h
set_option maxRecDepth 30000 in
theorem e_220_1507 {ls : ab_L} {st : List Value} {w : ab_W} : ab_Run ab_mt 220 1507 ls st w = ab_Run ab_mt 220 1508 ls (.int (nI 2) :: st) w := E_push (n := 1) rfl
set_option maxRecDepth 30000 in
theorem e_220_1508 {ls : ab_L} {st : List Value} {w : ab_W} {x y : Int32} : ab_Run ab_mt 220 1508 ls (.int y :: .int x :: st) w = ab_Run ab_mt 220 1509 ls (.int (x + y) :: st) w := E_ib (f := fun x y => x + y) rfl
set_option maxRecDepth 30000 in
theorem e_220_1509 {ls : ab_L} {st : List Value} {w : ab_W} {a : Nat} {i : Int32} (h : ab_inI i (w.2 a) = true) : ab_Run ab_mt 220 1509 ls (.int i :: .ref a :: st) w = ab_Run ab_mt 220 1510 ls (.int (ab_aI i.toNatClampNeg (w.2 a)) :: st) w := E_iald rfl h
set_option maxRecDepth 30000 in
theorem e_220_1510 {ls : ab_L} {st : List Value} {w : ab_W} (h : ab_isR (ls 3) = true) : ab_Run ab_mt 220 1510 ls st w = ab_Run ab_mt 220 1511 ls (ab_gv (ls 3) :: st) w := E_loadr (n := 1) rfl h
set_option maxRecDepth 30000 in
theorem e_220_1511 {ls : ab_L} {st : List Value} {w : ab_W} {v0 v1 v2 v3 : Value} (h1 : ab_recv ab_mt 214 [v0, v1, v2, v3] w.2 = true) (h8 : ab_w8 st = true) : ab_Run ab_mt 220 1511 ls (v3 :: v2 :: v1 :: v0 :: st) w = ab_aft 214 220 1511 ls st (ab_Cl 214 [v0, v1, v2, v3] w) := E_call4 rfl h1 h8
set_option maxRecDepth 30000 in
theorem e_220_1514 {ls : ab_L} {st : List Value} {w : ab_W} {x : Int32} : ab_Run ab_mt 220 1514 ls (.int x :: st) w = ab_Run ab_mt 220 1516 (ab_l1 ls 5 (.int x)) st w := E_stori (n := 2) rfl
set_option maxRecDepth 30000 in
theorem e_220_1516 {ls : ab_L} {st : List Value} {w : ab_W} (h : ab_isR (ls 2) = true) : ab_Run ab_mt 220 1516 ls st w = ab_Run ab_mt 220 1517 ls (ab_gv (ls 2) :: st) w := E_loadr (n := 1) rfl h
set_option maxRecDepth 30000 in
theorem e_220_1517 {ls : ab_L} {st : List Value} {w : ab_W} (h : ab_isR (ls 0) = true) : ab_Run ab_mt 220 1517 ls st w = ab_Run ab_mt 220 1518 ls (ab_gv (ls 0) :: st) w := E_loadr (n := 1) rfl h
set_option maxRecDepth 30000 in
theorem e_220_1518 {ls : ab_L} {st : List Value} {w : ab_W} (h : ab_isI (ls 4) = true) : ab_Run ab_mt 220 1518 ls st w = ab_Run ab_mt 220 1520 ls (ab_gv (ls 4) :: st) w := E_loadi (n := 2) rfl h
set_option maxRecDepth 30000 in
theorem e_220_1520 {ls : ab_L} {st : List Value} {w : ab_W} : ab_Run ab_mt 220 1520 ls st w = ab_Run ab_mt 220 1521 ls (.int (nI 1) :: st) w := E_push (n := 1) rfl
set_option maxRecDepth 30000 in
theorem e_220_1521 {ls : ab_L} {st : List Value} {w : ab_W} {x y : Int32} : ab_Run ab_mt 220 1521 ls (.int y :: .int x :: st) w = ab_Run ab_mt 220 1522 ls (.int (x + y) :: st) w := E_ib (f := fun x y => x + y) rfl
set_option maxRecDepth 30000 in
theorem e_220_1522 {ls : ab_L} {st : List Value} {w : ab_W} {a : Nat} {i : Int32} (h : ab_inI i (w.2 a) = true) : ab_Run ab_mt 220 1522 ls (.int i :: .ref a :: st) w = ab_Run ab_mt 220 1523 ls (.int (ab_aI i.toNatClampNeg (w.2 a)) :: st) w := E_iald rfl h
set_option maxRecDepth 30000 in
theorem e_220_1523 {ls : ab_L} {st : List Value} {w : ab_W} (h : ab_isR (ls 0) = true) : ab_Run ab_mt 220 1523 ls st w = ab_Run ab_mt 220 1524 ls (ab_gv (ls 0) :: st) w := E_loadr (n := 1) rfl h
set_option maxRecDepth 30000 in
theorem e_220_1524 {ls : ab_L} {st : List Value} {w : ab_W} (h : ab_isI (ls 4) = true) : ab_Run ab_mt 220 1524 ls st w = ab_Run ab_mt 220 1526 ls (ab_gv (ls 4) :: st) w := E_loadi (n := 2) rfl h
set_option maxRecDepth 30000 in
theorem e_220_1526 {ls : ab_L} {st : List Value} {w : ab_W} : ab_Run ab_mt 220 1526 ls st w = ab_Run ab_mt 220 1527 ls (.int (nI 2) :: st) w := E_push (n := 1) rfl
set_option maxRecDepth 30000 in
theorem e_220_1527 {ls : ab_L} {st : List Value} {w : ab_W} {x y : Int32} : ab_Run ab_mt 220 1527 ls (.int y :: .int x :: st) w = ab_Run ab_mt 220 1528 ls (.int (x + y) :: st) w := E_ib (f := fun x y => x + y) rfl
set_option maxRecDepth 30000 in
theorem e_220_1528 {ls : ab_L} {st : List Value} {w : ab_W} {a : Nat} {i : Int32} (h : ab_inI i (w.2 a) = true) : ab_Run ab_mt 220 1528 ls (.int i :: .ref a :: st) w = ab_Run ab_mt 220 1529 ls (.int (ab_aI i.toNatClampNeg (w.2 a)) :: st) w := E_iald rfl h
set_option maxRecDepth 30000 in
theorem e_220_1529 {ls : ab_L} {st : List Value} {w : ab_W} {v0 v1 v2 : Value} (h1 : ab_recv ab_mt 176 [v0, v1, v2] w.2 = true) (h8 : ab_w8 st = true) : ab_Run ab_mt 220 1529 ls (v2 :: v1 :: v0 :: st) w = ab_aft 176 220 1529 ls st (ab_Cl 176 [v0, v1, v2] w) := E_call3 rfl h1 h8
set_option maxRecDepth 30000 in
theorem e_220_1532 {ls : ab_L} {st : List Value} {w : ab_W} {x : Int64} : ab_Run ab_mt 220 1532 ls (.long x :: st) w = ab_Run ab_mt 220 1534 (ab_l2 ls 6 (.long x)) st w := E_storl (n := 2) rfl
set_option maxRecDepth 30000 in
theorem e_220_1534 {ls : ab_L} {st : List Value} {w : ab_W} (h : ab_isR (ls 2) = true) : ab_Run ab_mt 220 1534 ls st w = ab_Run ab_mt 220 1535 ls (ab_gv (ls 2) :: st) w := E_loadr (n := 1) rfl h
set_option maxRecDepth 30000 in
theorem e_220_1535 {ls : ab_L} {st : List Value} {w : ab_W} {v0 : Value} (h1 : ab_recv ab_mt 106 [v0] w.2 = true) (h8 : ab_w8 st = true) : ab_Run ab_mt 220 1535 ls (v0 :: st) w = ab_aft 106 220 1535 ls st (ab_Cl 106 [v0] w) := E_call1 rfl h1 h8
set_option maxRecDepth 30000 in
theorem e_220_1538 {ls : ab_L} {st : List Value} {w : ab_W} (h : ab_isI (ls 5) = true) : ab_Run ab_mt 220 1538 ls st w = ab_Run ab_mt 220 1540 ls (ab_gv (ls 5) :: st) w := E_loadi (n := 2) rfl h
set_option maxRecDepth 30000 in
theorem e_220_1540 {ls : ab_L} {st : List Value} {w : ab_W} {x y : Int32} : ab_Run ab_mt 220 1540 ls (.int y :: .int x :: st) w = if x = y then ab_Run ab_mt 220 1545 ls st w else ab_Run ab_mt 220 1543 ls st w := E_ic_eq rfl
set_option maxRecDepth 30000 in
theorem e_220_1543 {ls : ab_L} {st : List Value} {w : ab_W} : ab_Run ab_mt 220 1543 ls st w = ab_Run ab_mt 220 1544 ls (.int (nI 0) :: st) w := E_push (n := 1) rfl
set_option maxRecDepth 30000 in
theorem e_220_1544 {ls : ab_L} {w : ab_W} {x : Int32} (h : ab_fitr 2 (.int x) = true) : ab_Run ab_mt 220 1544 ls [.int x] w = some (.inl (some (.int x)), w) := E_retz rfl h
set_option maxRecDepth 30000 in
theorem e_220_1545 {ls : ab_L} {st : List Value} {w : ab_W} (h : ab_isI (ls 5) = true) : ab_Run ab_mt 220 1545 ls st w = ab_Run ab_mt 220 1547 ls (ab_gv (ls 5) :: st) w := E_loadi (n := 2) rfl h
set_option maxRecDepth 30000 in
theorem e_220_1547 {ls : ab_L} {st : List Value} {w : ab_W} {x : Int32} : ab_Run ab_mt 220 1547 ls (.int x :: st) w = if x = 0 then ab_Run ab_mt 220 1550 ls st w else ab_Run ab_mt 220 1561 ls st w := E_if_ne rfl
set_option maxRecDepth 30000 in
theorem e_220_1550 {ls : ab_L} {st : List Value} {w : ab_W} (h : ab_isR (ls 3) = true) : ab_Run ab_mt 220 1550 ls st w = ab_Run ab_mt 220 1551 ls (ab_gv (ls 3) :: st) w := E_loadr (n := 1) rfl h
set_option maxRecDepth 30000 in
theorem e_220_1551 {ls : ab_L} {st : List Value} {w : ab_W} : ab_Run ab_mt 220 1551 ls st w = ab_Run ab_mt 220 1552 ls (.int (nI 0) :: st) w := E_push (n := 1) rfl
set_option maxRecDepth 30000 in
theorem e_220_1552 {ls : ab_L} {st : List Value} {w : ab_W} {a : Nat} {i : Int32} (h : ab_inL i (w.2 a) = true) : ab_Run ab_mt 220 1552 ls (.int i :: .ref a :: st) w = ab_Run ab_mt 220 1553 ls (.long (ab_aL i.toNatClampNeg (w.2 a)) :: st) w := E_lald rfl h
set_option maxRecDepth 30000 in
theorem e_220_1553 {ls : ab_L} {st : List Value} {w : ab_W} (h : ab_isL (ls 6) = true) (h2 : (ls 7).isNone = true) : ab_Run ab_mt 220 1553 ls st w = ab_Run ab_mt 220 1555 ls (ab_gv (ls 6) :: st) w := E_loadl (n := 2) rfl h h2
set_option maxRecDepth 30000 in
theorem e_220_1555 {ls : ab_L} {st : List Value} {w : ab_W} {x y : Int64} : ab_Run ab_mt 220 1555 ls (.long y :: .long x :: st) w = ab_Run ab_mt 220 1556 ls (.int (lg_cmp x y) :: st) w := E_lcmp rfl
set_option maxRecDepth 30000 in
theorem e_220_1556 {ls : ab_L} {st : List Value} {w : ab_W} {x : Int32} : ab_Run ab_mt 220 1556 ls (.int x :: st) w = if x = 0 then ab_Run ab_mt 220 1561 ls st w else ab_Run ab_mt 220 1559 ls st w := E_if_eq rfl
set_option maxRecDepth 30000 in
theorem e_220_1559 {ls : ab_L} {st : List Value} {w : ab_W} : ab_Run ab_mt 220 1559 ls st w = ab_Run ab_mt 220 1560 ls (.int (nI 0) :: st) w := E_push (n := 1) rfl
set_option maxRecDepth 30000 in
theorem e_220_1560 {ls : ab_L} {w : ab_W} {x : Int32} (h : ab_fitr 2 (.int x) = true) : ab_Run ab_mt 220 1560 ls [.int x] w = some (.inl (some (.int x)), w) := E_retz rfl h
set_option maxRecDepth 30000 in
theorem e_220_1561 {ls : ab_L} {st : List Value} {w : ab_W} : ab_Run ab_mt 220 1561 ls st w = ab_Run ab_mt 220 2053 ls st w := E_goto rfl
set_option maxRecDepth 30000 in
theorem e_220_1564 {ls : ab_L} {st : List Value} {w : ab_W} (h : ab_isR (ls 1) = true) : ab_Run ab_mt 220 1564 ls st w = ab_Run ab_mt 220 1565 ls (ab_gv (ls 1) :: st) w := E_loadr (n := 1) rfl h
set_option maxRecDepth 30000 in
theorem e_220_1565 {ls : ab_L} {st : List Value} {w : ab_W} (h : ab_isR (ls 0) = true) : ab_Run ab_mt 220 1565 ls st w = ab_Run ab_mt 220 1566 ls (ab_gv (ls 0) :: st) w := E_loadr (n := 1) rfl h
set_option maxRecDepth 30000 in
theorem e_220_1566 {ls : ab_L} {st : List Value} {w : ab_W} (h : ab_isI (ls 4) = true) : ab_Run ab_mt 220 1566 ls st w = ab_Run ab_mt 220 1568 ls (ab_gv (ls 4) :: st) w := E_loadi (n := 2) rfl h
set_option maxRecDepth 30000 in
theorem e_220_1568 {ls : ab_L} {st : List Value} {w : ab_W} : ab_Run ab_mt 220 1568 ls st w = ab_Run ab_mt 220 1569 ls (.int (nI 1) :: st) w := E_push (n := 1) rfl
set_option maxRecDepth 30000 in
theorem e_220_1569 {ls : ab_L} {st : List Value} {w : ab_W} {x y : Int32} : ab_Run ab_mt 220 1569 ls (.int y :: .int x :: st) w = ab_Run ab_mt 220 1570 ls (.int (x + y) :: st) w := E_ib (f := fun x y => x + y) rfl
set_option maxRecDepth 30000 in
theorem e_220_1570 {ls : ab_L} {st : List Value} {w : ab_W} {a : Nat} {i : Int32} (h : ab_inI i (w.2 a) = true) : ab_Run ab_mt 220 1570 ls (.int i :: .ref a :: st) w = ab_Run ab_mt 220 1571 ls (.int (ab_aI i.toNatClampNeg (w.2 a)) :: st) w := E_iald rfl h
set_option maxRecDepth 30000 in
theorem e_220_1571 {ls : ab_L} {st : List Value} {w : ab_W} {x : Int32} : ab_Run ab_mt 220 1571 ls (.int x :: st) w = ab_Run ab_mt 220 1572 ls (.long x.toInt64 :: st) w := E_i2l rfl
set_option maxRecDepth 30000 in
theorem e_220_1572 {ls : ab_L} {st : List Value} {w : ab_W} : ab_Run ab_mt 220 1572 ls st w = ab_Run ab_mt 220 1574 ls (.int (nI 32) :: st) w := E_push (n := 2) rfl
set_option maxRecDepth 30000 in
theorem e_220_1574 {ls : ab_L} {st : List Value} {w : ab_W} {x : Int64} {y : Int32} : ab_Run ab_mt 220 1574 ls (.int y :: .long x :: st) w = ab_Run ab_mt 220 1575 ls (.long (x <<< (y.toInt64 &&& 63)) :: st) w := E_lsh rfl
set_option maxRecDepth 30000 in
theorem e_220_1575 {ls : ab_L} {st : List Value} {w : ab_W} (h : ab_isR (ls 0) = true) : ab_Run ab_mt 220 1575 ls st w = ab_Run ab_mt 220 1576 ls (ab_gv (ls 0) :: st) w := E_loadr (n := 1) rfl h
set_option maxRecDepth 30000 in
theorem e_220_1576 {ls : ab_L} {st : List Value} {w : ab_W} (h : ab_isI (ls 4) = true) : ab_Run ab_mt 220 1576 ls st w = ab_Run ab_mt 220 1578 ls (ab_gv (ls 4) :: st) w := E_loadi (n := 2) rfl h
set_option maxRecDepth 30000 in
theorem e_220_1578 {ls : ab_L} {st : List Value} {w : ab_W} : ab_Run ab_mt 220 1578 ls st w = ab_Run ab_mt 220 1579 ls (.int (nI 2) :: st) w := E_push (n := 1) rfl
set_option maxRecDepth 30000 in
theorem e_220_1579 {ls : ab_L} {st : List Value} {w : ab_W} {x y : Int32} : ab_Run ab_mt 220 1579 ls (.int y :: .int x :: st) w = ab_Run ab_mt 220 1580 ls (.int (x + y) :: st) w := E_ib (f := fun x y => x + y) rfl
set_option maxRecDepth 30000 in
theorem e_220_1580 {ls : ab_L} {st : List Value} {w : ab_W} {a : Nat} {i : Int32} (h : ab_inI i (w.2 a) = true) : ab_Run ab_mt 220 1580 ls (.int i :: .ref a :: st) w = ab_Run ab_mt 220 1581 ls (.int (ab_aI i.toNatClampNeg (w.2 a)) :: st) w := E_iald rfl h
set_option maxRecDepth 30000 in
theorem e_220_1581 {ls : ab_L} {st : List Value} {w : ab_W} {x : Int32} : ab_Run ab_mt 220 1581 ls (.int x :: st) w = ab_Run ab_mt 220 1582 ls (.long x.toInt64 :: st) w := E_i2l rfl
set_option maxRecDepth 30000 in
theorem e_220_1582 {ls : ab_L} {st : List Value} {w : ab_W} : ab_Run ab_mt 220 1582 ls st w = ab_Run ab_mt 220 1585 ls (.long (lN 4294967295) :: st) w := E_push (n := 3) rfl
set_option maxRecDepth 30000 in
theorem e_220_1585 {ls : ab_L} {st : List Value} {w : ab_W} {x y : Int64} : ab_Run ab_mt 220 1585 ls (.long y :: .long x :: st) w = ab_Run ab_mt 220 1586 ls (.long (x &&& y) :: st) w := E_lb (f := fun x y => x &&& y) rfl
set_option maxRecDepth 30000 in
theorem e_220_1586 {ls : ab_L} {st : List Value} {w : ab_W} {x y : Int64} : ab_Run ab_mt 220 1586 ls (.long y :: .long x :: st) w = ab_Run ab_mt 220 1587 ls (.long (x ||| y) :: st) w := E_lb (f := fun x y => x ||| y) rfl
set_option maxRecDepth 30000 in
theorem e_220_1587 {ls : ab_L} {st : List Value} {w : ab_W} (h : ab_isR (ls 0) = true) : ab_Run ab_mt 220 1587 ls st w = ab_Run ab_mt 220 1588 ls (ab_gv (ls 0) :: st) w := E_loadr (n := 1) rfl h
set_option maxRecDepth 30000 in
theorem e_220_1588 {ls : ab_L} {st : List Value} {w : ab_W} (h : ab_isI (ls 4) = true) : ab_Run ab_mt 220 1588 ls st w = ab_Run ab_mt 220 1590 ls (ab_gv (ls 4) :: st) w := E_loadi (n := 2) rfl h
set_option maxRecDepth 30000 in
theorem e_220_1590 {ls : ab_L} {st : List Value} {w : ab_W} : ab_Run ab_mt 220 1590 ls st w = ab_Run ab_mt 220 1591 ls (.int (nI 3) :: st) w := E_push (n := 1) rfl
set_option maxRecDepth 30000 in
theorem e_220_1591 {ls : ab_L} {st : List Value} {w : ab_W} {x y : Int32} : ab_Run ab_mt 220 1591 ls (.int y :: .int x :: st) w = ab_Run ab_mt 220 1592 ls (.int (x + y) :: st) w := E_ib (f := fun x y => x + y) rfl
set_option maxRecDepth 30000 in
theorem e_220_1592 {ls : ab_L} {st : List Value} {w : ab_W} {a : Nat} {i : Int32} (h : ab_inI i (w.2 a) = true) : ab_Run ab_mt 220 1592 ls (.int i :: .ref a :: st) w = ab_Run ab_mt 220 1593 ls (.int (ab_aI i.toNatClampNeg (w.2 a)) :: st) w := E_iald rfl h
set_option maxRecDepth 30000 in
theorem e_220_1593 {ls : ab_L} {st : List Value} {w : ab_W} (h : ab_isR (ls 3) = true) : ab_Run ab_mt 220 1593 ls st w = ab_Run ab_mt 220 1594 ls (ab_gv (ls 3) :: st) w := E_loadr (n := 1) rfl h
set_option maxRecDepth 30000 in
theorem e_220_1594 {ls : ab_L} {st : List Value} {w : ab_W} {v0 v1 v2 v3 : Value} (h1 : ab_recv ab_mt 215 [v0, v1, v2, v3] w.2 = true) (h8 : ab_w8 st = true) : ab_Run ab_mt 220 1594 ls (v3 :: v2 :: v1 :: v0 :: st) w = ab_aft 215 220 1594 ls st (ab_Cl 215 [v0, v1, v2, v3] w) := E_call4 rfl h1 h8
set_option maxRecDepth 30000 in
theorem e_220_1597 {ls : ab_L} {st : List Value} {w : ab_W} {x : Int32} : ab_Run ab_mt 220 1597 ls (.int x :: st) w = ab_Run ab_mt 220 1599 (ab_l1 ls 5 (.int x)) st w := E_stori (n := 2) rfl
set_option maxRecDepth 30000 in
theorem e_220_1599 {ls : ab_L} {st : List Value} {w : ab_W} (h : ab_isR (ls 2) = true) : ab_Run ab_mt 220 1599 ls st w = ab_Run ab_mt 220 1600 ls (ab_gv (ls 2) :: st) w := E_loadr (n := 1) rfl h
set_option maxRecDepth 30000 in
theorem e_220_1600 {ls : ab_L} {st : List Value} {w : ab_W} (h : ab_isR (ls 0) = true) : ab_Run ab_mt 220 1600 ls st w = ab_Run ab_mt 220 1601 ls (ab_gv (ls 0) :: st) w := E_loadr (n := 1) rfl h
set_option maxRecDepth 30000 in
theorem e_220_1601 {ls : ab_L} {st : List Value} {w : ab_W} (h : ab_isI (ls 4) = true) : ab_Run ab_mt 220 1601 ls st w = ab_Run ab_mt 220 1603 ls (ab_gv (ls 4) :: st) w := E_loadi (n := 2) rfl h
set_option maxRecDepth 30000 in
theorem e_220_1603 {ls : ab_L} {st : List Value} {w : ab_W} : ab_Run ab_mt 220 1603 ls st w = ab_Run ab_mt 220 1604 ls (.int (nI 1) :: st) w := E_push (n := 1) rfl
set_option maxRecDepth 30000 in
theorem e_220_1604 {ls : ab_L} {st : List Value} {w : ab_W} {x y : Int32} : ab_Run ab_mt 220 1604 ls (.int y :: .int x :: st) w = ab_Run ab_mt 220 1605 ls (.int (x + y) :: st) w := E_ib (f := fun x y => x + y) rfl
set_option maxRecDepth 30000 in
theorem e_220_1605 {ls : ab_L} {st : List Value} {w : ab_W} {a : Nat} {i : Int32} (h : ab_inI i (w.2 a) = true) : ab_Run ab_mt 220 1605 ls (.int i :: .ref a :: st) w = ab_Run ab_mt 220 1606 ls (.int (ab_aI i.toNatClampNeg (w.2 a)) :: st) w := E_iald rfl h
set_option maxRecDepth 30000 in
theorem e_220_1606 {ls : ab_L} {st : List Value} {w : ab_W} {x : Int32} : ab_Run ab_mt 220 1606 ls (.int x :: st) w = ab_Run ab_mt 220 1607 ls (.long x.toInt64 :: st) w := E_i2l rfl
set_option maxRecDepth 30000 in
theorem e_220_1607 {ls : ab_L} {st : List Value} {w : ab_W} : ab_Run ab_mt 220 1607 ls st w = ab_Run ab_mt 220 1609 ls (.int (nI 32) :: st) w := E_push (n := 2) rfl
set_option maxRecDepth 30000 in
theorem e_220_1609 {ls : ab_L} {st : List Value} {w : ab_W} {x : Int64} {y : Int32} : ab_Run ab_mt 220 1609 ls (.int y :: .long x :: st) w = ab_Run ab_mt 220 1610 ls (.long (x <<< (y.toInt64 &&& 63)) :: st) w := E_lsh rfl
set_option maxRecDepth 30000 in
theorem e_220_1610 {ls : ab_L} {st : List Value} {w : ab_W} (h : ab_isR (ls 0) = true) : ab_Run ab_mt 220 1610 ls st w = ab_Run ab_mt 220 1611 ls (ab_gv (ls 0) :: st) w := E_loadr (n := 1) rfl h
set_option maxRecDepth 30000 in
theorem e_220_1611 {ls : ab_L} {st : List Value} {w : ab_W} (h : ab_isI (ls 4) = true) : ab_Run ab_mt 220 1611 ls st w = ab_Run ab_mt 220 1613 ls (ab_gv (ls 4) :: st) w := E_loadi (n := 2) rfl h
set_option maxRecDepth 30000 in
theorem e_220_1613 {ls : ab_L} {st : List Value} {w : ab_W} : ab_Run ab_mt 220 1613 ls st w = ab_Run ab_mt 220 1614 ls (.int (nI 2) :: st) w := E_push (n := 1) rfl
set_option maxRecDepth 30000 in
theorem e_220_1614 {ls : ab_L} {st : List Value} {w : ab_W} {x y : Int32} : ab_Run ab_mt 220 1614 ls (.int y :: .int x :: st) w = ab_Run ab_mt 220 1615 ls (.int (x + y) :: st) w := E_ib (f := fun x y => x + y) rfl
set_option maxRecDepth 30000 in
theorem e_220_1615 {ls : ab_L} {st : List Value} {w : ab_W} {a : Nat} {i : Int32} (h : ab_inI i (w.2 a) = true) : ab_Run ab_mt 220 1615 ls (.int i :: .ref a :: st) w = ab_Run ab_mt 220 1616 ls (.int (ab_aI i.toNatClampNeg (w.2 a)) :: st) w := E_iald rfl h
set_option maxRecDepth 30000 in
theorem e_220_1616 {ls : ab_L} {st : List Value} {w : ab_W} {x : Int32} : ab_Run ab_mt 220 1616 ls (.int x :: st) w = ab_Run ab_mt 220 1617 ls (.long x.toInt64 :: st) w := E_i2l rfl
set_option maxRecDepth 30000 in
theorem e_220_1617 {ls : ab_L} {st : List Value} {w : ab_W} : ab_Run ab_mt 220 1617 ls st w = ab_Run ab_mt 220 1620 ls (.long (lN 4294967295) :: st) w := E_push (n := 3) rfl
set_option maxRecDepth 30000 in
theorem e_220_1620 {ls : ab_L} {st : List Value} {w : ab_W} {x y : Int64} : ab_Run ab_mt 220 1620 ls (.long y :: .long x :: st) w = ab_Run ab_mt 220 1621 ls (.long (x &&& y) :: st) w := E_lb (f := fun x y => x &&& y) rfl
set_option maxRecDepth 30000 in
theorem e_220_1621 {ls : ab_L} {st : List Value} {w : ab_W} {x y : Int64} : ab_Run ab_mt 220 1621 ls (.long y :: .long x :: st) w = ab_Run ab_mt 220 1622 ls (.long (x ||| y) :: st) w := E_lb (f := fun x y => x ||| y) rfl
set_option maxRecDepth 30000 in
theorem e_220_1622 {ls : ab_L} {st : List Value} {w : ab_W} (h : ab_isR (ls 0) = true) : ab_Run ab_mt 220 1622 ls st w = ab_Run ab_mt 220 1623 ls (ab_gv (ls 0) :: st) w := E_loadr (n := 1) rfl h
set_option maxRecDepth 30000 in
theorem e_220_1623 {ls : ab_L} {st : List Value} {w : ab_W} (h : ab_isI (ls 4) = true) : ab_Run ab_mt 220 1623 ls st w = ab_Run ab_mt 220 1625 ls (ab_gv (ls 4) :: st) w := E_loadi (n := 2) rfl h
set_option maxRecDepth 30000 in
theorem e_220_1625 {ls : ab_L} {st : List Value} {w : ab_W} : ab_Run ab_mt 220 1625 ls st w = ab_Run ab_mt 220 1626 ls (.int (nI 3) :: st) w := E_push (n := 1) rfl
set_option maxRecDepth 30000 in
theorem e_220_1626 {ls : ab_L} {st : List Value} {w : ab_W} {x y : Int32} : ab_Run ab_mt 220 1626 ls (.int y :: .int x :: st) w = ab_Run ab_mt 220 1627 ls (.int (x + y) :: st) w := E_ib (f := fun x y => x + y) rfl
set_option maxRecDepth 30000 in
theorem e_220_1627 {ls : ab_L} {st : List Value} {w : ab_W} {a : Nat} {i : Int32} (h : ab_inI i (w.2 a) = true) : ab_Run ab_mt 220 1627 ls (.int i :: .ref a :: st) w = ab_Run ab_mt 220 1628 ls (.int (ab_aI i.toNatClampNeg (w.2 a)) :: st) w := E_iald rfl h
set_option maxRecDepth 30000 in
theorem e_220_1628 {ls : ab_L} {st : List Value} {w : ab_W} {v0 v1 v2 : Value} (h1 : ab_recv ab_mt 178 [v0, v1, v2] w.2 = true) (h8 : ab_w8 st = true) : ab_Run ab_mt 220 1628 ls (v2 :: v1 :: v0 :: st) w = ab_aft 178 220 1628 ls st (ab_Cl 178 [v0, v1, v2] w) := E_call3 rfl h1 h8
set_option maxRecDepth 30000 in
theorem e_220_1631 {ls : ab_L} {st : List Value} {w : ab_W} {x : Int32} : ab_Run ab_mt 220 1631 ls (.int x :: st) w = ab_Run ab_mt 220 1633 (ab_l1 ls 6 (.int x)) st w := E_stori (n := 2) rfl
set_option maxRecDepth 30000 in
theorem e_220_1633 {ls : ab_L} {st : List Value} {w : ab_W} (h : ab_isR (ls 2) = true) : ab_Run ab_mt 220 1633 ls st w = ab_Run ab_mt 220 1634 ls (ab_gv (ls 2) :: st) w := E_loadr (n := 1) rfl h
set_option maxRecDepth 30000 in
theorem e_220_1634 {ls : ab_L} {st : List Value} {w : ab_W} {v0 : Value} (h1 : ab_recv ab_mt 106 [v0] w.2 = true) (h8 : ab_w8 st = true) : ab_Run ab_mt 220 1634 ls (v0 :: st) w = ab_aft 106 220 1634 ls st (ab_Cl 106 [v0] w) := E_call1 rfl h1 h8
set_option maxRecDepth 30000 in
theorem e_220_1637 {ls : ab_L} {st : List Value} {w : ab_W} (h : ab_isI (ls 5) = true) : ab_Run ab_mt 220 1637 ls st w = ab_Run ab_mt 220 1639 ls (ab_gv (ls 5) :: st) w := E_loadi (n := 2) rfl h
set_option maxRecDepth 30000 in
theorem e_220_1639 {ls : ab_L} {st : List Value} {w : ab_W} {x y : Int32} : ab_Run ab_mt 220 1639 ls (.int y :: .int x :: st) w = if x = y then ab_Run ab_mt 220 1644 ls st w else ab_Run ab_mt 220 1642 ls st w := E_ic_eq rfl
set_option maxRecDepth 30000 in
theorem e_220_1642 {ls : ab_L} {st : List Value} {w : ab_W} : ab_Run ab_mt 220 1642 ls st w = ab_Run ab_mt 220 1643 ls (.int (nI 0) :: st) w := E_push (n := 1) rfl
set_option maxRecDepth 30000 in
theorem e_220_1643 {ls : ab_L} {w : ab_W} {x : Int32} (h : ab_fitr 2 (.int x) = true) : ab_Run ab_mt 220 1643 ls [.int x] w = some (.inl (some (.int x)), w) := E_retz rfl h
set_option maxRecDepth 30000 in
theorem e_220_1644 {ls : ab_L} {st : List Value} {w : ab_W} (h : ab_isI (ls 5) = true) : ab_Run ab_mt 220 1644 ls st w = ab_Run ab_mt 220 1646 ls (ab_gv (ls 5) :: st) w := E_loadi (n := 2) rfl h
set_option maxRecDepth 30000 in
theorem e_220_1646 {ls : ab_L} {st : List Value} {w : ab_W} {x : Int32} : ab_Run ab_mt 220 1646 ls (.int x :: st) w = if x = 0 then ab_Run ab_mt 220 1649 ls st w else ab_Run ab_mt 220 1661 ls st w := E_if_ne rfl
set_option maxRecDepth 30000 in
theorem e_220_1649 {ls : ab_L} {st : List Value} {w : ab_W} (h : ab_isR (ls 3) = true) : ab_Run ab_mt 220 1649 ls st w = ab_Run ab_mt 220 1650 ls (ab_gv (ls 3) :: st) w := E_loadr (n := 1) rfl h
set_option maxRecDepth 30000 in
theorem e_220_1650 {ls : ab_L} {st : List Value} {w : ab_W} : ab_Run ab_mt 220 1650 ls st w = ab_Run ab_mt 220 1651 ls (.int (nI 0) :: st) w := E_push (n := 1) rfl
set_option maxRecDepth 30000 in
theorem e_220_1651 {ls : ab_L} {st : List Value} {w : ab_W} {a : Nat} {i : Int32} (h : ab_inL i (w.2 a) = true) : ab_Run ab_mt 220 1651 ls (.int i :: .ref a :: st) w = ab_Run ab_mt 220 1652 ls (.long (ab_aL i.toNatClampNeg (w.2 a)) :: st) w := E_lald rfl h
set_option maxRecDepth 30000 in
theorem e_220_1652 {ls : ab_L} {st : List Value} {w : ab_W} (h : ab_isI (ls 6) = true) : ab_Run ab_mt 220 1652 ls st w = ab_Run ab_mt 220 1654 ls (ab_gv (ls 6) :: st) w := E_loadi (n := 2) rfl h
set_option maxRecDepth 30000 in
theorem e_220_1654 {ls : ab_L} {st : List Value} {w : ab_W} {x : Int32} : ab_Run ab_mt 220 1654 ls (.int x :: st) w = ab_Run ab_mt 220 1655 ls (.long x.toInt64 :: st) w := E_i2l rfl
set_option maxRecDepth 30000 in
theorem e_220_1655 {ls : ab_L} {st : List Value} {w : ab_W} {x y : Int64} : ab_Run ab_mt 220 1655 ls (.long y :: .long x :: st) w = ab_Run ab_mt 220 1656 ls (.int (lg_cmp x y) :: st) w := E_lcmp rfl
set_option maxRecDepth 30000 in
theorem e_220_1656 {ls : ab_L} {st : List Value} {w : ab_W} {x : Int32} : ab_Run ab_mt 220 1656 ls (.int x :: st) w = if x = 0 then ab_Run ab_mt 220 1661 ls st w else ab_Run ab_mt 220 1659 ls st w := E_if_eq rfl
set_option maxRecDepth 30000 in
theorem e_220_1659 {ls : ab_L} {st : List Value} {w : ab_W} : ab_Run ab_mt 220 1659 ls st w = ab_Run ab_mt 220 1660 ls (.int (nI 0) :: st) w := E_push (n := 1) rfl
set_option maxRecDepth 30000 in
theorem e_220_1660 {ls : ab_L} {w : ab_W} {x : Int32} (h : ab_fitr 2 (.int x) = true) : ab_Run ab_mt 220 1660 ls [.int x] w = some (.inl (some (.int x)), w) := E_retz rfl h
set_option maxRecDepth 30000 in
theorem e_220_1661 {ls : ab_L} {st : List Value} {w : ab_W} : ab_Run ab_mt 220 1661 ls st w = ab_Run ab_mt 220 2053 ls st w := E_goto rfl
set_option maxRecDepth 30000 in
theorem e_220_1664 {ls : ab_L} {st : List Value} {w : ab_W} (h : ab_isR (ls 1) = true) : ab_Run ab_mt 220 1664 ls st w = ab_Run ab_mt 220 1665 ls (ab_gv (ls 1) :: st) w := E_loadr (n := 1) rfl h
set_option maxRecDepth 30000 in
theorem e_220_1665 {ls : ab_L} {st : List Value} {w : ab_W} (h : ab_isR (ls 0) = true) : ab_Run ab_mt 220 1665 ls st w = ab_Run ab_mt 220 1666 ls (ab_gv (ls 0) :: st) w := E_loadr (n := 1) rfl h
set_option maxRecDepth 30000 in
theorem e_220_1666 {ls : ab_L} {st : List Value} {w : ab_W} (h : ab_isI (ls 4) = true) : ab_Run ab_mt 220 1666 ls st w = ab_Run ab_mt 220 1668 ls (ab_gv (ls 4) :: st) w := E_loadi (n := 2) rfl h
set_option maxRecDepth 30000 in
theorem e_220_1668 {ls : ab_L} {st : List Value} {w : ab_W} : ab_Run ab_mt 220 1668 ls st w = ab_Run ab_mt 220 1669 ls (.int (nI 1) :: st) w := E_push (n := 1) rfl
set_option maxRecDepth 30000 in
theorem e_220_1669 {ls : ab_L} {st : List Value} {w : ab_W} {x y : Int32} : ab_Run ab_mt 220 1669 ls (.int y :: .int x :: st) w = ab_Run ab_mt 220 1670 ls (.int (x + y) :: st) w := E_ib (f := fun x y => x + y) rfl
set_option maxRecDepth 30000 in
theorem e_220_1670 {ls : ab_L} {st : List Value} {w : ab_W} {a : Nat} {i : Int32} (h : ab_inI i (w.2 a) = true) : ab_Run ab_mt 220 1670 ls (.int i :: .ref a :: st) w = ab_Run ab_mt 220 1671 ls (.int (ab_aI i.toNatClampNeg (w.2 a)) :: st) w := E_iald rfl h
set_option maxRecDepth 30000 in
theorem e_220_1671 {ls : ab_L} {st : List Value} {w : ab_W} (h : ab_isR (ls 3) = true) : ab_Run ab_mt 220 1671 ls st w = ab_Run ab_mt 220 1672 ls (ab_gv (ls 3) :: st) w := E_loadr (n := 1) rfl h
set_option maxRecDepth 30000 in
theorem e_220_1672 {ls : ab_L} {st : List Value} {w : ab_W} {v0 v1 v2 : Value} (h1 : ab_recv ab_mt 216 [v0, v1, v2] w.2 = true) (h8 : ab_w8 st = true) : ab_Run ab_mt 220 1672 ls (v2 :: v1 :: v0 :: st) w = ab_aft 216 220 1672 ls st (ab_Cl 216 [v0, v1, v2] w) := E_call3 rfl h1 h8
set_option maxRecDepth 30000 in
theorem e_220_1675 {ls : ab_L} {st : List Value} {w : ab_W} {x : Int32} : ab_Run ab_mt 220 1675 ls (.int x :: st) w = ab_Run ab_mt 220 1677 (ab_l1 ls 5 (.int x)) st w := E_stori (n := 2) rfl
set_option maxRecDepth 30000 in
theorem e_220_1677 {ls : ab_L} {st : List Value} {w : ab_W} (h : ab_isR (ls 2) = true) : ab_Run ab_mt 220 1677 ls st w = ab_Run ab_mt 220 1678 ls (ab_gv (ls 2) :: st) w := E_loadr (n := 1) rfl h
set_option maxRecDepth 30000 in
theorem e_220_1678 {ls : ab_L} {st : List Value} {w : ab_W} (h : ab_isR (ls 0) = true) : ab_Run ab_mt 220 1678 ls st w = ab_Run ab_mt 220 1679 ls (ab_gv (ls 0) :: st) w := E_loadr (n := 1) rfl h
set_option maxRecDepth 30000 in
theorem e_220_1679 {ls : ab_L} {st : List Value} {w : ab_W} (h : ab_isI (ls 4) = true) : ab_Run ab_mt 220 1679 ls st w = ab_Run ab_mt 220 1681 ls (ab_gv (ls 4) :: st) w := E_loadi (n := 2) rfl h
set_option maxRecDepth 30000 in
theorem e_220_1681 {ls : ab_L} {st : List Value} {w : ab_W} : ab_Run ab_mt 220 1681 ls st w = ab_Run ab_mt 220 1682 ls (.int (nI 1) :: st) w := E_push (n := 1) rfl
set_option maxRecDepth 30000 in
theorem e_220_1682 {ls : ab_L} {st : List Value} {w : ab_W} {x y : Int32} : ab_Run ab_mt 220 1682 ls (.int y :: .int x :: st) w = ab_Run ab_mt 220 1683 ls (.int (x + y) :: st) w := E_ib (f := fun x y => x + y) rfl
set_option maxRecDepth 30000 in
theorem e_220_1683 {ls : ab_L} {st : List Value} {w : ab_W} {a : Nat} {i : Int32} (h : ab_inI i (w.2 a) = true) : ab_Run ab_mt 220 1683 ls (.int i :: .ref a :: st) w = ab_Run ab_mt 220 1684 ls (.int (ab_aI i.toNatClampNeg (w.2 a)) :: st) w := E_iald rfl h
set_option maxRecDepth 30000 in
theorem e_220_1684 {ls : ab_L} {st : List Value} {w : ab_W} {v0 v1 : Value} (h1 : ab_recv ab_mt 183 [v0, v1] w.2 = true) (h8 : ab_w8 st = true) : ab_Run ab_mt 220 1684 ls (v1 :: v0 :: st) w = ab_aft 183 220 1684 ls st (ab_Cl 183 [v0, v1] w) := E_call2 rfl h1 h8
set_option maxRecDepth 30000 in
theorem e_220_1687 {ls : ab_L} {st : List Value} {w : ab_W} {x : Int64} : ab_Run ab_mt 220 1687 ls (.long x :: st) w = ab_Run ab_mt 220 1689 (ab_l2 ls 6 (.long x)) st w := E_storl (n := 2) rfl
set_option maxRecDepth 30000 in
theorem e_220_1689 {ls : ab_L} {st : List Value} {w : ab_W} (h : ab_isR (ls 2) = true) : ab_Run ab_mt 220 1689 ls st w = ab_Run ab_mt 220 1690 ls (ab_gv (ls 2) :: st) w := E_loadr (n := 1) rfl h
set_option maxRecDepth 30000 in
theorem e_220_1690 {ls : ab_L} {st : List Value} {w : ab_W} {v0 : Value} (h1 : ab_recv ab_mt 106 [v0] w.2 = true) (h8 : ab_w8 st = true) : ab_Run ab_mt 220 1690 ls (v0 :: st) w = ab_aft 106 220 1690 ls st (ab_Cl 106 [v0] w) := E_call1 rfl h1 h8
set_option maxRecDepth 30000 in
theorem e_220_1693 {ls : ab_L} {st : List Value} {w : ab_W} (h : ab_isI (ls 5) = true) : ab_Run ab_mt 220 1693 ls st w = ab_Run ab_mt 220 1695 ls (ab_gv (ls 5) :: st) w := E_loadi (n := 2) rfl h
set_option maxRecDepth 30000 in
theorem e_220_1695 {ls : ab_L} {st : List Value} {w : ab_W} {x y : Int32} : ab_Run ab_mt 220 1695 ls (.int y :: .int x :: st) w = if x = y then ab_Run ab_mt 220 1700 ls st w else ab_Run ab_mt 220 1698 ls st w := E_ic_eq rfl
set_option maxRecDepth 30000 in
theorem e_220_1698 {ls : ab_L} {st : List Value} {w : ab_W} : ab_Run ab_mt 220 1698 ls st w = ab_Run ab_mt 220 1699 ls (.int (nI 0) :: st) w := E_push (n := 1) rfl
set_option maxRecDepth 30000 in
theorem e_220_1699 {ls : ab_L} {w : ab_W} {x : Int32} (h : ab_fitr 2 (.int x) = true) : ab_Run ab_mt 220 1699 ls [.int x] w = some (.inl (some (.int x)), w) := E_retz rfl h
set_option maxRecDepth 30000 in
theorem e_220_1700 {ls : ab_L} {st : List Value} {w : ab_W} (h : ab_isI (ls 5) = true) : ab_Run ab_mt 220 1700 ls st w = ab_Run ab_mt 220 1702 ls (ab_gv (ls 5) :: st) w := E_loadi (n := 2) rfl h
set_option maxRecDepth 30000 in
theorem e_220_1702 {ls : ab_L} {st : List Value} {w : ab_W} {x : Int32} : ab_Run ab_mt 220 1702 ls (.int x :: st) w = if x = 0 then ab_Run ab_mt 220 1705 ls st w else ab_Run ab_mt 220 1716 ls st w := E_if_ne rfl
set_option maxRecDepth 30000 in
theorem e_220_1705 {ls : ab_L} {st : List Value} {w : ab_W} (h : ab_isR (ls 3) = true) : ab_Run ab_mt 220 1705 ls st w = ab_Run ab_mt 220 1706 ls (ab_gv (ls 3) :: st) w := E_loadr (n := 1) rfl h
set_option maxRecDepth 30000 in
theorem e_220_1706 {ls : ab_L} {st : List Value} {w : ab_W} : ab_Run ab_mt 220 1706 ls st w = ab_Run ab_mt 220 1707 ls (.int (nI 0) :: st) w := E_push (n := 1) rfl
set_option maxRecDepth 30000 in
theorem e_220_1707 {ls : ab_L} {st : List Value} {w : ab_W} {a : Nat} {i : Int32} (h : ab_inL i (w.2 a) = true) : ab_Run ab_mt 220 1707 ls (.int i :: .ref a :: st) w = ab_Run ab_mt 220 1708 ls (.long (ab_aL i.toNatClampNeg (w.2 a)) :: st) w := E_lald rfl h
set_option maxRecDepth 30000 in
theorem e_220_1708 {ls : ab_L} {st : List Value} {w : ab_W} (h : ab_isL (ls 6) = true) (h2 : (ls 7).isNone = true) : ab_Run ab_mt 220 1708 ls st w = ab_Run ab_mt 220 1710 ls (ab_gv (ls 6) :: st) w := E_loadl (n := 2) rfl h h2
set_option maxRecDepth 30000 in
theorem e_220_1710 {ls : ab_L} {st : List Value} {w : ab_W} {x y : Int64} : ab_Run ab_mt 220 1710 ls (.long y :: .long x :: st) w = ab_Run ab_mt 220 1711 ls (.int (lg_cmp x y) :: st) w := E_lcmp rfl
set_option maxRecDepth 30000 in
theorem e_220_1711 {ls : ab_L} {st : List Value} {w : ab_W} {x : Int32} : ab_Run ab_mt 220 1711 ls (.int x :: st) w = if x = 0 then ab_Run ab_mt 220 1716 ls st w else ab_Run ab_mt 220 1714 ls st w := E_if_eq rfl
set_option maxRecDepth 30000 in
theorem e_220_1714 {ls : ab_L} {st : List Value} {w : ab_W} : ab_Run ab_mt 220 1714 ls st w = ab_Run ab_mt 220 1715 ls (.int (nI 0) :: st) w := E_push (n := 1) rfl
set_option maxRecDepth 30000 in
theorem e_220_1715 {ls : ab_L} {w : ab_W} {x : Int32} (h : ab_fitr 2 (.int x) = true) : ab_Run ab_mt 220 1715 ls [.int x] w = some (.inl (some (.int x)), w) := E_retz rfl h
set_option maxRecDepth 30000 in
theorem e_220_1716 {ls : ab_L} {st : List Value} {w : ab_W} : ab_Run ab_mt 220 1716 ls st w = ab_Run ab_mt 220 2053 ls st w := E_goto rfl
set_option maxRecDepth 30000 in
theorem e_220_1719 {ls : ab_L} {st : List Value} {w : ab_W} (h : ab_isR (ls 1) = true) : ab_Run ab_mt 220 1719 ls st w = ab_Run ab_mt 220 1720 ls (ab_gv (ls 1) :: st) w := E_loadr (n := 1) rfl h
set_option maxRecDepth 30000 in
theorem e_220_1720 {ls : ab_L} {st : List Value} {w : ab_W} (h : ab_isR (ls 0) = true) : ab_Run ab_mt 220 1720 ls st w = ab_Run ab_mt 220 1721 ls (ab_gv (ls 0) :: st) w := E_loadr (n := 1) rfl h
set_option maxRecDepth 30000 in
theorem e_220_1721 {ls : ab_L} {st : List Value} {w : ab_W} (h : ab_isI (ls 4) = true) : ab_Run ab_mt 220 1721 ls st w = ab_Run ab_mt 220 1723 ls (ab_gv (ls 4) :: st) w := E_loadi (n := 2) rfl h
set_option maxRecDepth 30000 in
theorem e_220_1723 {ls : ab_L} {st : List Value} {w : ab_W} : ab_Run ab_mt 220 1723 ls st w = ab_Run ab_mt 220 1724 ls (.int (nI 1) :: st) w := E_push (n := 1) rfl
set_option maxRecDepth 30000 in
theorem e_220_1724 {ls : ab_L} {st : List Value} {w : ab_W} {x y : Int32} : ab_Run ab_mt 220 1724 ls (.int y :: .int x :: st) w = ab_Run ab_mt 220 1725 ls (.int (x + y) :: st) w := E_ib (f := fun x y => x + y) rfl
set_option maxRecDepth 30000 in
theorem e_220_1725 {ls : ab_L} {st : List Value} {w : ab_W} {a : Nat} {i : Int32} (h : ab_inI i (w.2 a) = true) : ab_Run ab_mt 220 1725 ls (.int i :: .ref a :: st) w = ab_Run ab_mt 220 1726 ls (.int (ab_aI i.toNatClampNeg (w.2 a)) :: st) w := E_iald rfl h
set_option maxRecDepth 30000 in
theorem e_220_1726 {ls : ab_L} {st : List Value} {w : ab_W} (h : ab_isR (ls 0) = true) : ab_Run ab_mt 220 1726 ls st w = ab_Run ab_mt 220 1727 ls (ab_gv (ls 0) :: st) w := E_loadr (n := 1) rfl h
set_option maxRecDepth 30000 in
theorem e_220_1727 {ls : ab_L} {st : List Value} {w : ab_W} (h : ab_isI (ls 4) = true) : ab_Run ab_mt 220 1727 ls st w = ab_Run ab_mt 220 1729 ls (ab_gv (ls 4) :: st) w := E_loadi (n := 2) rfl h
set_option maxRecDepth 30000 in
theorem e_220_1729 {ls : ab_L} {st : List Value} {w : ab_W} : ab_Run ab_mt 220 1729 ls st w = ab_Run ab_mt 220 1730 ls (.int (nI 2) :: st) w := E_push (n := 1) rfl
set_option maxRecDepth 30000 in
theorem e_220_1730 {ls : ab_L} {st : List Value} {w : ab_W} {x y : Int32} : ab_Run ab_mt 220 1730 ls (.int y :: .int x :: st) w = ab_Run ab_mt 220 1731 ls (.int (x + y) :: st) w := E_ib (f := fun x y => x + y) rfl
set_option maxRecDepth 30000 in
theorem e_220_1731 {ls : ab_L} {st : List Value} {w : ab_W} {a : Nat} {i : Int32} (h : ab_inI i (w.2 a) = true) : ab_Run ab_mt 220 1731 ls (.int i :: .ref a :: st) w = ab_Run ab_mt 220 1732 ls (.int (ab_aI i.toNatClampNeg (w.2 a)) :: st) w := E_iald rfl h
set_option maxRecDepth 30000 in
theorem e_220_1732 {ls : ab_L} {st : List Value} {w : ab_W} {x : Int32} : ab_Run ab_mt 220 1732 ls (.int x :: st) w = ab_Run ab_mt 220 1733 ls (.long x.toInt64 :: st) w := E_i2l rfl
set_option maxRecDepth 30000 in
theorem e_220_1733 {ls : ab_L} {st : List Value} {w : ab_W} : ab_Run ab_mt 220 1733 ls st w = ab_Run ab_mt 220 1735 ls (.int (nI 32) :: st) w := E_push (n := 2) rfl
set_option maxRecDepth 30000 in
theorem e_220_1735 {ls : ab_L} {st : List Value} {w : ab_W} {x : Int64} {y : Int32} : ab_Run ab_mt 220 1735 ls (.int y :: .long x :: st) w = ab_Run ab_mt 220 1736 ls (.long (x <<< (y.toInt64 &&& 63)) :: st) w := E_lsh rfl
set_option maxRecDepth 30000 in
theorem e_220_1736 {ls : ab_L} {st : List Value} {w : ab_W} (h : ab_isR (ls 0) = true) : ab_Run ab_mt 220 1736 ls st w = ab_Run ab_mt 220 1737 ls (ab_gv (ls 0) :: st) w := E_loadr (n := 1) rfl h
set_option maxRecDepth 30000 in
theorem e_220_1737 {ls : ab_L} {st : List Value} {w : ab_W} (h : ab_isI (ls 4) = true) : ab_Run ab_mt 220 1737 ls st w = ab_Run ab_mt 220 1739 ls (ab_gv (ls 4) :: st) w := E_loadi (n := 2) rfl h
set_option maxRecDepth 30000 in
theorem e_220_1739 {ls : ab_L} {st : List Value} {w : ab_W} : ab_Run ab_mt 220 1739 ls st w = ab_Run ab_mt 220 1740 ls (.int (nI 3) :: st) w := E_push (n := 1) rfl
set_option maxRecDepth 30000 in
theorem e_220_1740 {ls : ab_L} {st : List Value} {w : ab_W} {x y : Int32} : ab_Run ab_mt 220 1740 ls (.int y :: .int x :: st) w = ab_Run ab_mt 220 1741 ls (.int (x + y) :: st) w := E_ib (f := fun x y => x + y) rfl
set_option maxRecDepth 30000 in
theorem e_220_1741 {ls : ab_L} {st : List Value} {w : ab_W} {a : Nat} {i : Int32} (h : ab_inI i (w.2 a) = true) : ab_Run ab_mt 220 1741 ls (.int i :: .ref a :: st) w = ab_Run ab_mt 220 1742 ls (.int (ab_aI i.toNatClampNeg (w.2 a)) :: st) w := E_iald rfl h
set_option maxRecDepth 30000 in
theorem e_220_1742 {ls : ab_L} {st : List Value} {w : ab_W} {x : Int32} : ab_Run ab_mt 220 1742 ls (.int x :: st) w = ab_Run ab_mt 220 1743 ls (.long x.toInt64 :: st) w := E_i2l rfl
set_option maxRecDepth 30000 in
theorem e_220_1743 {ls : ab_L} {st : List Value} {w : ab_W} : ab_Run ab_mt 220 1743 ls st w = ab_Run ab_mt 220 1746 ls (.long (lN 4294967295) :: st) w := E_push (n := 3) rfl
set_option maxRecDepth 30000 in
theorem e_220_1746 {ls : ab_L} {st : List Value} {w : ab_W} {x y : Int64} : ab_Run ab_mt 220 1746 ls (.long y :: .long x :: st) w = ab_Run ab_mt 220 1747 ls (.long (x &&& y) :: st) w := E_lb (f := fun x y => x &&& y) rfl
set_option maxRecDepth 30000 in
theorem e_220_1747 {ls : ab_L} {st : List Value} {w : ab_W} {x y : Int64} : ab_Run ab_mt 220 1747 ls (.long y :: .long x :: st) w = ab_Run ab_mt 220 1748 ls (.long (x ||| y) :: st) w := E_lb (f := fun x y => x ||| y) rfl
set_option maxRecDepth 30000 in
theorem e_220_1748 {ls : ab_L} {st : List Value} {w : ab_W} (h : ab_isR (ls 3) = true) : ab_Run ab_mt 220 1748 ls st w = ab_Run ab_mt 220 1749 ls (ab_gv (ls 3) :: st) w := E_loadr (n := 1) rfl h
set_option maxRecDepth 30000 in
theorem e_220_1749 {ls : ab_L} {st : List Value} {w : ab_W} {v0 v1 v2 v3 : Value} (h1 : ab_recv ab_mt 217 [v0, v1, v2, v3] w.2 = true) (h8 : ab_w8 st = true) : ab_Run ab_mt 220 1749 ls (v3 :: v2 :: v1 :: v0 :: st) w = ab_aft 217 220 1749 ls st (ab_Cl 217 [v0, v1, v2, v3] w) := E_call4 rfl h1 h8
set_option maxRecDepth 30000 in
theorem e_220_1752 {ls : ab_L} {st : List Value} {w : ab_W} {x : Int32} : ab_Run ab_mt 220 1752 ls (.int x :: st) w = ab_Run ab_mt 220 1754 (ab_l1 ls 5 (.int x)) st w := E_stori (n := 2) rfl
set_option maxRecDepth 30000 in
theorem e_220_1754 {ls : ab_L} {st : List Value} {w : ab_W} (h : ab_isR (ls 2) = true) : ab_Run ab_mt 220 1754 ls st w = ab_Run ab_mt 220 1755 ls (ab_gv (ls 2) :: st) w := E_loadr (n := 1) rfl h
set_option maxRecDepth 30000 in
theorem e_220_1755 {ls : ab_L} {st : List Value} {w : ab_W} (h : ab_isR (ls 0) = true) : ab_Run ab_mt 220 1755 ls st w = ab_Run ab_mt 220 1756 ls (ab_gv (ls 0) :: st) w := E_loadr (n := 1) rfl h
set_option maxRecDepth 30000 in
theorem e_220_1756 {ls : ab_L} {st : List Value} {w : ab_W} (h : ab_isI (ls 4) = true) : ab_Run ab_mt 220 1756 ls st w = ab_Run ab_mt 220 1758 ls (ab_gv (ls 4) :: st) w := E_loadi (n := 2) rfl h
set_option maxRecDepth 30000 in
theorem e_220_1758 {ls : ab_L} {st : List Value} {w : ab_W} : ab_Run ab_mt 220 1758 ls st w = ab_Run ab_mt 220 1759 ls (.int (nI 1) :: st) w := E_push (n := 1) rfl
set_option maxRecDepth 30000 in
theorem e_220_1759 {ls : ab_L} {st : List Value} {w : ab_W} {x y : Int32} : ab_Run ab_mt 220 1759 ls (.int y :: .int x :: st) w = ab_Run ab_mt 220 1760 ls (.int (x + y) :: st) w := E_ib (f := fun x y => x + y) rfl
set_option maxRecDepth 30000 in
theorem e_220_1760 {ls : ab_L} {st : List Value} {w : ab_W} {a : Nat} {i : Int32} (h : ab_inI i (w.2 a) = true) : ab_Run ab_mt 220 1760 ls (.int i :: .ref a :: st) w = ab_Run ab_mt 220 1761 ls (.int (ab_aI i.toNatClampNeg (w.2 a)) :: st) w := E_iald rfl h
set_option maxRecDepth 30000 in
theorem e_220_1761 {ls : ab_L} {st : List Value} {w : ab_W} (h : ab_isR (ls 0) = true) : ab_Run ab_mt 220 1761 ls st w = ab_Run ab_mt 220 1762 ls (ab_gv (ls 0) :: st) w := E_loadr (n := 1) rfl h
set_option maxRecDepth 30000 in
theorem e_220_1762 {ls : ab_L} {st : List Value} {w : ab_W} (h : ab_isI (ls 4) = true) : ab_Run ab_mt 220 1762 ls st w = ab_Run ab_mt 220 1764 ls (ab_gv (ls 4) :: st) w := E_loadi (n := 2) rfl h
set_option maxRecDepth 30000 in
theorem e_220_1764 {ls : ab_L} {st : List Value} {w : ab_W} : ab_Run ab_mt 220 1764 ls st w = ab_Run ab_mt 220 1765 ls (.int (nI 2) :: st) w := E_push (n := 1) rfl
set_option maxRecDepth 30000 in
theorem e_220_1765 {ls : ab_L} {st : List Value} {w : ab_W} {x y : Int32} : ab_Run ab_mt 220 1765 ls (.int y :: .int x :: st) w = ab_Run ab_mt 220 1766 ls (.int (x + y) :: st) w := E_ib (f := fun x y => x + y) rfl
set_option maxRecDepth 30000 in
theorem e_220_1766 {ls : ab_L} {st : List Value} {w : ab_W} {a : Nat} {i : Int32} (h : ab_inI i (w.2 a) = true) : ab_Run ab_mt 220 1766 ls (.int i :: .ref a :: st) w = ab_Run ab_mt 220 1767 ls (.int (ab_aI i.toNatClampNeg (w.2 a)) :: st) w := E_iald rfl h
set_option maxRecDepth 30000 in
theorem e_220_1767 {ls : ab_L} {st : List Value} {w : ab_W} {x : Int32} : ab_Run ab_mt 220 1767 ls (.int x :: st) w = ab_Run ab_mt 220 1768 ls (.long x.toInt64 :: st) w := E_i2l rfl
set_option maxRecDepth 30000 in
theorem e_220_1768 {ls : ab_L} {st : List Value} {w : ab_W} : ab_Run ab_mt 220 1768 ls st w = ab_Run ab_mt 220 1770 ls (.int (nI 32) :: st) w := E_push (n := 2) rfl
set_option maxRecDepth 30000 in
theorem e_220_1770 {ls : ab_L} {st : List Value} {w : ab_W} {x : Int64} {y : Int32} : ab_Run ab_mt 220 1770 ls (.int y :: .long x :: st) w = ab_Run ab_mt 220 1771 ls (.long (x <<< (y.toInt64 &&& 63)) :: st) w := E_lsh rfl
set_option maxRecDepth 30000 in
theorem e_220_1771 {ls : ab_L} {st : List Value} {w : ab_W} (h : ab_isR (ls 0) = true) : ab_Run ab_mt 220 1771 ls st w = ab_Run ab_mt 220 1772 ls (ab_gv (ls 0) :: st) w := E_loadr (n := 1) rfl h
set_option maxRecDepth 30000 in
theorem e_220_1772 {ls : ab_L} {st : List Value} {w : ab_W} (h : ab_isI (ls 4) = true) : ab_Run ab_mt 220 1772 ls st w = ab_Run ab_mt 220 1774 ls (ab_gv (ls 4) :: st) w := E_loadi (n := 2) rfl h
set_option maxRecDepth 30000 in
theorem e_220_1774 {ls : ab_L} {st : List Value} {w : ab_W} : ab_Run ab_mt 220 1774 ls st w = ab_Run ab_mt 220 1775 ls (.int (nI 3) :: st) w := E_push (n := 1) rfl
set_option maxRecDepth 30000 in
theorem e_220_1775 {ls : ab_L} {st : List Value} {w : ab_W} {x y : Int32} : ab_Run ab_mt 220 1775 ls (.int y :: .int x :: st) w = ab_Run ab_mt 220 1776 ls (.int (x + y) :: st) w := E_ib (f := fun x y => x + y) rfl
set_option maxRecDepth 30000 in
theorem e_220_1776 {ls : ab_L} {st : List Value} {w : ab_W} {a : Nat} {i : Int32} (h : ab_inI i (w.2 a) = true) : ab_Run ab_mt 220 1776 ls (.int i :: .ref a :: st) w = ab_Run ab_mt 220 1777 ls (.int (ab_aI i.toNatClampNeg (w.2 a)) :: st) w := E_iald rfl h
set_option maxRecDepth 30000 in
theorem e_220_1777 {ls : ab_L} {st : List Value} {w : ab_W} {x : Int32} : ab_Run ab_mt 220 1777 ls (.int x :: st) w = ab_Run ab_mt 220 1778 ls (.long x.toInt64 :: st) w := E_i2l rfl
set_option maxRecDepth 30000 in
theorem e_220_1778 {ls : ab_L} {st : List Value} {w : ab_W} : ab_Run ab_mt 220 1778 ls st w = ab_Run ab_mt 220 1781 ls (.long (lN 4294967295) :: st) w := E_push (n := 3) rfl
set_option maxRecDepth 30000 in
theorem e_220_1781 {ls : ab_L} {st : List Value} {w : ab_W} {x y : Int64} : ab_Run ab_mt 220 1781 ls (.long y :: .long x :: st) w = ab_Run ab_mt 220 1782 ls (.long (x &&& y) :: st) w := E_lb (f := fun x y => x &&& y) rfl
set_option maxRecDepth 30000 in
theorem e_220_1782 {ls : ab_L} {st : List Value} {w : ab_W} {x y : Int64} : ab_Run ab_mt 220 1782 ls (.long y :: .long x :: st) w = ab_Run ab_mt 220 1783 ls (.long (x ||| y) :: st) w := E_lb (f := fun x y => x ||| y) rfl
set_option maxRecDepth 30000 in
theorem e_220_1783 {ls : ab_L} {st : List Value} {w : ab_W} {v0 v1 v2 : Value} (h1 : ab_recv ab_mt 185 [v0, v1, v2] w.2 = true) (h8 : ab_w8 st = true) : ab_Run ab_mt 220 1783 ls (v2 :: v1 :: v0 :: st) w = ab_aft 185 220 1783 ls st (ab_Cl 185 [v0, v1, v2] w) := E_call3 rfl h1 h8
set_option maxRecDepth 30000 in
theorem e_220_1786 {ls : ab_L} {st : List Value} {w : ab_W} {x : Int32} : ab_Run ab_mt 220 1786 ls (.int x :: st) w = ab_Run ab_mt 220 1788 (ab_l1 ls 6 (.int x)) st w := E_stori (n := 2) rfl
set_option maxRecDepth 30000 in
theorem e_220_1788 {ls : ab_L} {st : List Value} {w : ab_W} (h : ab_isR (ls 2) = true) : ab_Run ab_mt 220 1788 ls st w = ab_Run ab_mt 220 1789 ls (ab_gv (ls 2) :: st) w := E_loadr (n := 1) rfl h
set_option maxRecDepth 30000 in
theorem e_220_1789 {ls : ab_L} {st : List Value} {w : ab_W} {v0 : Value} (h1 : ab_recv ab_mt 106 [v0] w.2 = true) (h8 : ab_w8 st = true) : ab_Run ab_mt 220 1789 ls (v0 :: st) w = ab_aft 106 220 1789 ls st (ab_Cl 106 [v0] w) := E_call1 rfl h1 h8
set_option maxRecDepth 30000 in
theorem e_220_1792 {ls : ab_L} {st : List Value} {w : ab_W} (h : ab_isI (ls 5) = true) : ab_Run ab_mt 220 1792 ls st w = ab_Run ab_mt 220 1794 ls (ab_gv (ls 5) :: st) w := E_loadi (n := 2) rfl h
set_option maxRecDepth 30000 in
theorem e_220_1794 {ls : ab_L} {st : List Value} {w : ab_W} {x y : Int32} : ab_Run ab_mt 220 1794 ls (.int y :: .int x :: st) w = if x = y then ab_Run ab_mt 220 1799 ls st w else ab_Run ab_mt 220 1797 ls st w := E_ic_eq rfl
set_option maxRecDepth 30000 in
theorem e_220_1797 {ls : ab_L} {st : List Value} {w : ab_W} : ab_Run ab_mt 220 1797 ls st w = ab_Run ab_mt 220 1798 ls (.int (nI 0) :: st) w := E_push (n := 1) rfl
set_option maxRecDepth 30000 in
theorem e_220_1798 {ls : ab_L} {w : ab_W} {x : Int32} (h : ab_fitr 2 (.int x) = true) : ab_Run ab_mt 220 1798 ls [.int x] w = some (.inl (some (.int x)), w) := E_retz rfl h
set_option maxRecDepth 30000 in
theorem e_220_1799 {ls : ab_L} {st : List Value} {w : ab_W} (h : ab_isI (ls 5) = true) : ab_Run ab_mt 220 1799 ls st w = ab_Run ab_mt 220 1801 ls (ab_gv (ls 5) :: st) w := E_loadi (n := 2) rfl h
set_option maxRecDepth 30000 in
theorem e_220_1801 {ls : ab_L} {st : List Value} {w : ab_W} {x : Int32} : ab_Run ab_mt 220 1801 ls (.int x :: st) w = if x = 0 then ab_Run ab_mt 220 1804 ls st w else ab_Run ab_mt 220 1816 ls st w := E_if_ne rfl
set_option maxRecDepth 30000 in
theorem e_220_1804 {ls : ab_L} {st : List Value} {w : ab_W} (h : ab_isR (ls 3) = true) : ab_Run ab_mt 220 1804 ls st w = ab_Run ab_mt 220 1805 ls (ab_gv (ls 3) :: st) w := E_loadr (n := 1) rfl h
set_option maxRecDepth 30000 in
theorem e_220_1805 {ls : ab_L} {st : List Value} {w : ab_W} : ab_Run ab_mt 220 1805 ls st w = ab_Run ab_mt 220 1806 ls (.int (nI 0) :: st) w := E_push (n := 1) rfl
set_option maxRecDepth 30000 in
theorem e_220_1806 {ls : ab_L} {st : List Value} {w : ab_W} {a : Nat} {i : Int32} (h : ab_inL i (w.2 a) = true) : ab_Run ab_mt 220 1806 ls (.int i :: .ref a :: st) w = ab_Run ab_mt 220 1807 ls (.long (ab_aL i.toNatClampNeg (w.2 a)) :: st) w := E_lald rfl h
set_option maxRecDepth 30000 in
theorem e_220_1807 {ls : ab_L} {st : List Value} {w : ab_W} (h : ab_isI (ls 6) = true) : ab_Run ab_mt 220 1807 ls st w = ab_Run ab_mt 220 1809 ls (ab_gv (ls 6) :: st) w := E_loadi (n := 2) rfl h
set_option maxRecDepth 30000 in
theorem e_220_1809 {ls : ab_L} {st : List Value} {w : ab_W} {x : Int32} : ab_Run ab_mt 220 1809 ls (.int x :: st) w = ab_Run ab_mt 220 1810 ls (.long x.toInt64 :: st) w := E_i2l rfl
set_option maxRecDepth 30000 in
theorem e_220_1810 {ls : ab_L} {st : List Value} {w : ab_W} {x y : Int64} : ab_Run ab_mt 220 1810 ls (.long y :: .long x :: st) w = ab_Run ab_mt 220 1811 ls (.int (lg_cmp x y) :: st) w := E_lcmp rfl
set_option maxRecDepth 30000 in
theorem e_220_1811 {ls : ab_L} {st : List Value} {w : ab_W} {x : Int32} : ab_Run ab_mt 220 1811 ls (.int x :: st) w = if x = 0 then ab_Run ab_mt 220 1816 ls st w else ab_Run ab_mt 220 1814 ls st w := E_if_eq rfl
set_option maxRecDepth 30000 in
theorem e_220_1814 {ls : ab_L} {st : List Value} {w : ab_W} : ab_Run ab_mt 220 1814 ls st w = ab_Run ab_mt 220 1815 ls (.int (nI 0) :: st) w := E_push (n := 1) rfl
set_option maxRecDepth 30000 in
theorem e_220_1815 {ls : ab_L} {w : ab_W} {x : Int32} (h : ab_fitr 2 (.int x) = true) : ab_Run ab_mt 220 1815 ls [.int x] w = some (.inl (some (.int x)), w) := E_retz rfl h
set_option maxRecDepth 30000 in
theorem e_220_1816 {ls : ab_L} {st : List Value} {w : ab_W} : ab_Run ab_mt 220 1816 ls st w = ab_Run ab_mt 220 2053 ls st w := E_goto rfl
set_option maxRecDepth 30000 in
theorem e_220_1819 {ls : ab_L} {st : List Value} {w : ab_W} (h : ab_isR (ls 1) = true) : ab_Run ab_mt 220 1819 ls st w = ab_Run ab_mt 220 1820 ls (ab_gv (ls 1) :: st) w := E_loadr (n := 1) rfl h
set_option maxRecDepth 30000 in
theorem e_220_1820 {ls : ab_L} {st : List Value} {w : ab_W} (h : ab_isR (ls 0) = true) : ab_Run ab_mt 220 1820 ls st w = ab_Run ab_mt 220 1821 ls (ab_gv (ls 0) :: st) w := E_loadr (n := 1) rfl h
set_option maxRecDepth 30000 in
theorem e_220_1821 {ls : ab_L} {st : List Value} {w : ab_W} (h : ab_isI (ls 4) = true) : ab_Run ab_mt 220 1821 ls st w = ab_Run ab_mt 220 1823 ls (ab_gv (ls 4) :: st) w := E_loadi (n := 2) rfl h
set_option maxRecDepth 30000 in
theorem e_220_1823 {ls : ab_L} {st : List Value} {w : ab_W} : ab_Run ab_mt 220 1823 ls st w = ab_Run ab_mt 220 1824 ls (.int (nI 1) :: st) w := E_push (n := 1) rfl
set_option maxRecDepth 30000 in
theorem e_220_1824 {ls : ab_L} {st : List Value} {w : ab_W} {x y : Int32} : ab_Run ab_mt 220 1824 ls (.int y :: .int x :: st) w = ab_Run ab_mt 220 1825 ls (.int (x + y) :: st) w := E_ib (f := fun x y => x + y) rfl
set_option maxRecDepth 30000 in
theorem e_220_1825 {ls : ab_L} {st : List Value} {w : ab_W} {a : Nat} {i : Int32} (h : ab_inI i (w.2 a) = true) : ab_Run ab_mt 220 1825 ls (.int i :: .ref a :: st) w = ab_Run ab_mt 220 1826 ls (.int (ab_aI i.toNatClampNeg (w.2 a)) :: st) w := E_iald rfl h
set_option maxRecDepth 30000 in
theorem e_220_1826 {ls : ab_L} {st : List Value} {w : ab_W} (h : ab_isR (ls 0) = true) : ab_Run ab_mt 220 1826 ls st w = ab_Run ab_mt 220 1827 ls (ab_gv (ls 0) :: st) w := E_loadr (n := 1) rfl h
set_option maxRecDepth 30000 in
theorem e_220_1827 {ls : ab_L} {st : List Value} {w : ab_W} (h : ab_isI (ls 4) = true) : ab_Run ab_mt 220 1827 ls st w = ab_Run ab_mt 220 1829 ls (ab_gv (ls 4) :: st) w := E_loadi (n := 2) rfl h
set_option maxRecDepth 30000 in
theorem e_220_1829 {ls : ab_L} {st : List Value} {w : ab_W} : ab_Run ab_mt 220 1829 ls st w = ab_Run ab_mt 220 1830 ls (.int (nI 2) :: st) w := E_push (n := 1) rfl
set_option maxRecDepth 30000 in
theorem e_220_1830 {ls : ab_L} {st : List Value} {w : ab_W} {x y : Int32} : ab_Run ab_mt 220 1830 ls (.int y :: .int x :: st) w = ab_Run ab_mt 220 1831 ls (.int (x + y) :: st) w := E_ib (f := fun x y => x + y) rfl
set_option maxRecDepth 30000 in
theorem e_220_1831 {ls : ab_L} {st : List Value} {w : ab_W} {a : Nat} {i : Int32} (h : ab_inI i (w.2 a) = true) : ab_Run ab_mt 220 1831 ls (.int i :: .ref a :: st) w = ab_Run ab_mt 220 1832 ls (.int (ab_aI i.toNatClampNeg (w.2 a)) :: st) w := E_iald rfl h
set_option maxRecDepth 30000 in
theorem e_220_1832 {ls : ab_L} {st : List Value} {w : ab_W} {x : Int32} : ab_Run ab_mt 220 1832 ls (.int x :: st) w = ab_Run ab_mt 220 1833 ls (.long x.toInt64 :: st) w := E_i2l rfl
set_option maxRecDepth 30000 in
theorem e_220_1833 {ls : ab_L} {st : List Value} {w : ab_W} : ab_Run ab_mt 220 1833 ls st w = ab_Run ab_mt 220 1835 ls (.int (nI 32) :: st) w := E_push (n := 2) rfl
set_option maxRecDepth 30000 in
theorem e_220_1835 {ls : ab_L} {st : List Value} {w : ab_W} {x : Int64} {y : Int32} : ab_Run ab_mt 220 1835 ls (.int y :: .long x :: st) w = ab_Run ab_mt 220 1836 ls (.long (x <<< (y.toInt64 &&& 63)) :: st) w := E_lsh rfl
set_option maxRecDepth 30000 in
theorem e_220_1836 {ls : ab_L} {st : List Value} {w : ab_W} (h : ab_isR (ls 0) = true) : ab_Run ab_mt 220 1836 ls st w = ab_Run ab_mt 220 1837 ls (ab_gv (ls 0) :: st) w := E_loadr (n := 1) rfl h
set_option maxRecDepth 30000 in
theorem e_220_1837 {ls : ab_L} {st : List Value} {w : ab_W} (h : ab_isI (ls 4) = true) : ab_Run ab_mt 220 1837 ls st w = ab_Run ab_mt 220 1839 ls (ab_gv (ls 4) :: st) w := E_loadi (n := 2) rfl h
set_option maxRecDepth 30000 in
theorem e_220_1839 {ls : ab_L} {st : List Value} {w : ab_W} : ab_Run ab_mt 220 1839 ls st w = ab_Run ab_mt 220 1840 ls (.int (nI 3) :: st) w := E_push (n := 1) rfl
set_option maxRecDepth 30000 in
theorem e_220_1840 {ls : ab_L} {st : List Value} {w : ab_W} {x y : Int32} : ab_Run ab_mt 220 1840 ls (.int y :: .int x :: st) w = ab_Run ab_mt 220 1841 ls (.int (x + y) :: st) w := E_ib (f := fun x y => x + y) rfl
set_option maxRecDepth 30000 in
theorem e_220_1841 {ls : ab_L} {st : List Value} {w : ab_W} {a : Nat} {i : Int32} (h : ab_inI i (w.2 a) = true) : ab_Run ab_mt 220 1841 ls (.int i :: .ref a :: st) w = ab_Run ab_mt 220 1842 ls (.int (ab_aI i.toNatClampNeg (w.2 a)) :: st) w := E_iald rfl h
set_option maxRecDepth 30000 in
theorem e_220_1842 {ls : ab_L} {st : List Value} {w : ab_W} {x : Int32} : ab_Run ab_mt 220 1842 ls (.int x :: st) w = ab_Run ab_mt 220 1843 ls (.long x.toInt64 :: st) w := E_i2l rfl
set_option maxRecDepth 30000 in
theorem e_220_1843 {ls : ab_L} {st : List Value} {w : ab_W} : ab_Run ab_mt 220 1843 ls st w = ab_Run ab_mt 220 1846 ls (.long (lN 4294967295) :: st) w := E_push (n := 3) rfl
set_option maxRecDepth 30000 in
theorem e_220_1846 {ls : ab_L} {st : List Value} {w : ab_W} {x y : Int64} : ab_Run ab_mt 220 1846 ls (.long y :: .long x :: st) w = ab_Run ab_mt 220 1847 ls (.long (x &&& y) :: st) w := E_lb (f := fun x y => x &&& y) rfl
set_option maxRecDepth 30000 in
theorem e_220_1847 {ls : ab_L} {st : List Value} {w : ab_W} {x y : Int64} : ab_Run ab_mt 220 1847 ls (.long y :: .long x :: st) w = ab_Run ab_mt 220 1848 ls (.long (x ||| y) :: st) w := E_lb (f := fun x y => x ||| y) rfl
set_option maxRecDepth 30000 in
theorem e_220_1848 {ls : ab_L} {st : List Value} {w : ab_W} (h : ab_isR (ls 3) = true) : ab_Run ab_mt 220 1848 ls st w = ab_Run ab_mt 220 1849 ls (ab_gv (ls 3) :: st) w := E_loadr (n := 1) rfl h
set_option maxRecDepth 30000 in
theorem e_220_1849 {ls : ab_L} {st : List Value} {w : ab_W} {v0 v1 v2 v3 : Value} (h1 : ab_recv ab_mt 218 [v0, v1, v2, v3] w.2 = true) (h8 : ab_w8 st = true) : ab_Run ab_mt 220 1849 ls (v3 :: v2 :: v1 :: v0 :: st) w = ab_aft 218 220 1849 ls st (ab_Cl 218 [v0, v1, v2, v3] w) := E_call4 rfl h1 h8
set_option maxRecDepth 30000 in
theorem e_220_1852 {ls : ab_L} {st : List Value} {w : ab_W} {x : Int32} : ab_Run ab_mt 220 1852 ls (.int x :: st) w = ab_Run ab_mt 220 1854 (ab_l1 ls 5 (.int x)) st w := E_stori (n := 2) rfl
set_option maxRecDepth 30000 in
theorem e_220_1854 {ls : ab_L} {st : List Value} {w : ab_W} (h : ab_isR (ls 2) = true) : ab_Run ab_mt 220 1854 ls st w = ab_Run ab_mt 220 1855 ls (ab_gv (ls 2) :: st) w := E_loadr (n := 1) rfl h
set_option maxRecDepth 30000 in
theorem e_220_1855 {ls : ab_L} {st : List Value} {w : ab_W} (h : ab_isR (ls 0) = true) : ab_Run ab_mt 220 1855 ls st w = ab_Run ab_mt 220 1856 ls (ab_gv (ls 0) :: st) w := E_loadr (n := 1) rfl h
set_option maxRecDepth 30000 in
theorem e_220_1856 {ls : ab_L} {st : List Value} {w : ab_W} (h : ab_isI (ls 4) = true) : ab_Run ab_mt 220 1856 ls st w = ab_Run ab_mt 220 1858 ls (ab_gv (ls 4) :: st) w := E_loadi (n := 2) rfl h
set_option maxRecDepth 30000 in
theorem e_220_1858 {ls : ab_L} {st : List Value} {w : ab_W} : ab_Run ab_mt 220 1858 ls st w = ab_Run ab_mt 220 1859 ls (.int (nI 1) :: st) w := E_push (n := 1) rfl
set_option maxRecDepth 30000 in
theorem e_220_1859 {ls : ab_L} {st : List Value} {w : ab_W} {x y : Int32} : ab_Run ab_mt 220 1859 ls (.int y :: .int x :: st) w = ab_Run ab_mt 220 1860 ls (.int (x + y) :: st) w := E_ib (f := fun x y => x + y) rfl
set_option maxRecDepth 30000 in
theorem e_220_1860 {ls : ab_L} {st : List Value} {w : ab_W} {a : Nat} {i : Int32} (h : ab_inI i (w.2 a) = true) : ab_Run ab_mt 220 1860 ls (.int i :: .ref a :: st) w = ab_Run ab_mt 220 1861 ls (.int (ab_aI i.toNatClampNeg (w.2 a)) :: st) w := E_iald rfl h
set_option maxRecDepth 30000 in
theorem e_220_1861 {ls : ab_L} {st : List Value} {w : ab_W} (h : ab_isR (ls 0) = true) : ab_Run ab_mt 220 1861 ls st w = ab_Run ab_mt 220 1862 ls (ab_gv (ls 0) :: st) w := E_loadr (n := 1) rfl h
set_option maxRecDepth 30000 in
theorem e_220_1862 {ls : ab_L} {st : List Value} {w : ab_W} (h : ab_isI (ls 4) = true) : ab_Run ab_mt 220 1862 ls st w = ab_Run ab_mt 220 1864 ls (ab_gv (ls 4) :: st) w := E_loadi (n := 2) rfl h
set_option maxRecDepth 30000 in
theorem e_220_1864 {ls : ab_L} {st : List Value} {w : ab_W} : ab_Run ab_mt 220 1864 ls st w = ab_Run ab_mt 220 1865 ls (.int (nI 2) :: st) w := E_push (n := 1) rfl
set_option maxRecDepth 30000 in
theorem e_220_1865 {ls : ab_L} {st : List Value} {w : ab_W} {x y : Int32} : ab_Run ab_mt 220 1865 ls (.int y :: .int x :: st) w = ab_Run ab_mt 220 1866 ls (.int (x + y) :: st) w := E_ib (f := fun x y => x + y) rfl
set_option maxRecDepth 30000 in
theorem e_220_1866 {ls : ab_L} {st : List Value} {w : ab_W} {a : Nat} {i : Int32} (h : ab_inI i (w.2 a) = true) : ab_Run ab_mt 220 1866 ls (.int i :: .ref a :: st) w = ab_Run ab_mt 220 1867 ls (.int (ab_aI i.toNatClampNeg (w.2 a)) :: st) w := E_iald rfl h
set_option maxRecDepth 30000 in
theorem e_220_1867 {ls : ab_L} {st : List Value} {w : ab_W} {x : Int32} : ab_Run ab_mt 220 1867 ls (.int x :: st) w = ab_Run ab_mt 220 1868 ls (.long x.toInt64 :: st) w := E_i2l rfl
set_option maxRecDepth 30000 in
theorem e_220_1868 {ls : ab_L} {st : List Value} {w : ab_W} : ab_Run ab_mt 220 1868 ls st w = ab_Run ab_mt 220 1870 ls (.int (nI 32) :: st) w := E_push (n := 2) rfl
set_option maxRecDepth 30000 in
theorem e_220_1870 {ls : ab_L} {st : List Value} {w : ab_W} {x : Int64} {y : Int32} : ab_Run ab_mt 220 1870 ls (.int y :: .long x :: st) w = ab_Run ab_mt 220 1871 ls (.long (x <<< (y.toInt64 &&& 63)) :: st) w := E_lsh rfl
set_option maxRecDepth 30000 in
theorem e_220_1871 {ls : ab_L} {st : List Value} {w : ab_W} (h : ab_isR (ls 0) = true) : ab_Run ab_mt 220 1871 ls st w = ab_Run ab_mt 220 1872 ls (ab_gv (ls 0) :: st) w := E_loadr (n := 1) rfl h
set_option maxRecDepth 30000 in
theorem e_220_1872 {ls : ab_L} {st : List Value} {w : ab_W} (h : ab_isI (ls 4) = true) : ab_Run ab_mt 220 1872 ls st w = ab_Run ab_mt 220 1874 ls (ab_gv (ls 4) :: st) w := E_loadi (n := 2) rfl h
set_option maxRecDepth 30000 in
theorem e_220_1874 {ls : ab_L} {st : List Value} {w : ab_W} : ab_Run ab_mt 220 1874 ls st w = ab_Run ab_mt 220 1875 ls (.int (nI 3) :: st) w := E_push (n := 1) rfl
set_option maxRecDepth 30000 in
theorem e_220_1875 {ls : ab_L} {st : List Value} {w : ab_W} {x y : Int32} : ab_Run ab_mt 220 1875 ls (.int y :: .int x :: st) w = ab_Run ab_mt 220 1876 ls (.int (x + y) :: st) w := E_ib (f := fun x y => x + y) rfl
set_option maxRecDepth 30000 in
theorem e_220_1876 {ls : ab_L} {st : List Value} {w : ab_W} {a : Nat} {i : Int32} (h : ab_inI i (w.2 a) = true) : ab_Run ab_mt 220 1876 ls (.int i :: .ref a :: st) w = ab_Run ab_mt 220 1877 ls (.int (ab_aI i.toNatClampNeg (w.2 a)) :: st) w := E_iald rfl h
set_option maxRecDepth 30000 in
theorem e_220_1877 {ls : ab_L} {st : List Value} {w : ab_W} {x : Int32} : ab_Run ab_mt 220 1877 ls (.int x :: st) w = ab_Run ab_mt 220 1878 ls (.long x.toInt64 :: st) w := E_i2l rfl
set_option maxRecDepth 30000 in
theorem e_220_1878 {ls : ab_L} {st : List Value} {w : ab_W} : ab_Run ab_mt 220 1878 ls st w = ab_Run ab_mt 220 1881 ls (.long (lN 4294967295) :: st) w := E_push (n := 3) rfl
set_option maxRecDepth 30000 in
theorem e_220_1881 {ls : ab_L} {st : List Value} {w : ab_W} {x y : Int64} : ab_Run ab_mt 220 1881 ls (.long y :: .long x :: st) w = ab_Run ab_mt 220 1882 ls (.long (x &&& y) :: st) w := E_lb (f := fun x y => x &&& y) rfl
set_option maxRecDepth 30000 in
theorem e_220_1882 {ls : ab_L} {st : List Value} {w : ab_W} {x y : Int64} : ab_Run ab_mt 220 1882 ls (.long y :: .long x :: st) w = ab_Run ab_mt 220 1883 ls (.long (x ||| y) :: st) w := E_lb (f := fun x y => x ||| y) rfl
set_option maxRecDepth 30000 in
theorem e_220_1883 {ls : ab_L} {st : List Value} {w : ab_W} {v0 v1 v2 : Value} (h1 : ab_recv ab_mt 186 [v0, v1, v2] w.2 = true) (h8 : ab_w8 st = true) : ab_Run ab_mt 220 1883 ls (v2 :: v1 :: v0 :: st) w = ab_aft 186 220 1883 ls st (ab_Cl 186 [v0, v1, v2] w) := E_call3 rfl h1 h8
set_option maxRecDepth 30000 in
theorem e_220_1886 {ls : ab_L} {st : List Value} {w : ab_W} {x : Int32} : ab_Run ab_mt 220 1886 ls (.int x :: st) w = ab_Run ab_mt 220 1888 (ab_l1 ls 6 (.int x)) st w := E_stori (n := 2) rfl
set_option maxRecDepth 30000 in
theorem e_220_1888 {ls : ab_L} {st : List Value} {w : ab_W} (h : ab_isR (ls 2) = true) : ab_Run ab_mt 220 1888 ls st w = ab_Run ab_mt 220 1889 ls (ab_gv (ls 2) :: st) w := E_loadr (n := 1) rfl h
set_option maxRecDepth 30000 in
theorem e_220_1889 {ls : ab_L} {st : List Value} {w : ab_W} {v0 : Value} (h1 : ab_recv ab_mt 106 [v0] w.2 = true) (h8 : ab_w8 st = true) : ab_Run ab_mt 220 1889 ls (v0 :: st) w = ab_aft 106 220 1889 ls st (ab_Cl 106 [v0] w) := E_call1 rfl h1 h8
set_option maxRecDepth 30000 in
theorem e_220_1892 {ls : ab_L} {st : List Value} {w : ab_W} (h : ab_isI (ls 5) = true) : ab_Run ab_mt 220 1892 ls st w = ab_Run ab_mt 220 1894 ls (ab_gv (ls 5) :: st) w := E_loadi (n := 2) rfl h
set_option maxRecDepth 30000 in
theorem e_220_1894 {ls : ab_L} {st : List Value} {w : ab_W} {x y : Int32} : ab_Run ab_mt 220 1894 ls (.int y :: .int x :: st) w = if x = y then ab_Run ab_mt 220 1899 ls st w else ab_Run ab_mt 220 1897 ls st w := E_ic_eq rfl
set_option maxRecDepth 30000 in
theorem e_220_1897 {ls : ab_L} {st : List Value} {w : ab_W} : ab_Run ab_mt 220 1897 ls st w = ab_Run ab_mt 220 1898 ls (.int (nI 0) :: st) w := E_push (n := 1) rfl
set_option maxRecDepth 30000 in
theorem e_220_1898 {ls : ab_L} {w : ab_W} {x : Int32} (h : ab_fitr 2 (.int x) = true) : ab_Run ab_mt 220 1898 ls [.int x] w = some (.inl (some (.int x)), w) := E_retz rfl h
set_option maxRecDepth 30000 in
theorem e_220_1899 {ls : ab_L} {st : List Value} {w : ab_W} (h : ab_isI (ls 5) = true) : ab_Run ab_mt 220 1899 ls st w = ab_Run ab_mt 220 1901 ls (ab_gv (ls 5) :: st) w := E_loadi (n := 2) rfl h
set_option maxRecDepth 30000 in
theorem e_220_1901 {ls : ab_L} {st : List Value} {w : ab_W} {x : Int32} : ab_Run ab_mt 220 1901 ls (.int x :: st) w = if x = 0 then ab_Run ab_mt 220 1904 ls st w else ab_Run ab_mt 220 1916 ls st w := E_if_ne rfl
set_option maxRecDepth 30000 in
theorem e_220_1904 {ls : ab_L} {st : List Value} {w : ab_W} (h : ab_isR (ls 3) = true) : ab_Run ab_mt 220 1904 ls st w = ab_Run ab_mt 220 1905 ls (ab_gv (ls 3) :: st) w := E_loadr (n := 1) rfl h
set_option maxRecDepth 30000 in
theorem e_220_1905 {ls : ab_L} {st : List Value} {w : ab_W} : ab_Run ab_mt 220 1905 ls st w = ab_Run ab_mt 220 1906 ls (.int (nI 0) :: st) w := E_push (n := 1) rfl
set_option maxRecDepth 30000 in
theorem e_220_1906 {ls : ab_L} {st : List Value} {w : ab_W} {a : Nat} {i : Int32} (h : ab_inL i (w.2 a) = true) : ab_Run ab_mt 220 1906 ls (.int i :: .ref a :: st) w = ab_Run ab_mt 220 1907 ls (.long (ab_aL i.toNatClampNeg (w.2 a)) :: st) w := E_lald rfl h
set_option maxRecDepth 30000 in
theorem e_220_1907 {ls : ab_L} {st : List Value} {w : ab_W} (h : ab_isI (ls 6) = true) : ab_Run ab_mt 220 1907 ls st w = ab_Run ab_mt 220 1909 ls (ab_gv (ls 6) :: st) w := E_loadi (n := 2) rfl h
set_option maxRecDepth 30000 in
theorem e_220_1909 {ls : ab_L} {st : List Value} {w : ab_W} {x : Int32} : ab_Run ab_mt 220 1909 ls (.int x :: st) w = ab_Run ab_mt 220 1910 ls (.long x.toInt64 :: st) w := E_i2l rfl
set_option maxRecDepth 30000 in
theorem e_220_1910 {ls : ab_L} {st : List Value} {w : ab_W} {x y : Int64} : ab_Run ab_mt 220 1910 ls (.long y :: .long x :: st) w = ab_Run ab_mt 220 1911 ls (.int (lg_cmp x y) :: st) w := E_lcmp rfl
set_option maxRecDepth 30000 in
theorem e_220_1911 {ls : ab_L} {st : List Value} {w : ab_W} {x : Int32} : ab_Run ab_mt 220 1911 ls (.int x :: st) w = if x = 0 then ab_Run ab_mt 220 1916 ls st w else ab_Run ab_mt 220 1914 ls st w := E_if_eq rfl
set_option maxRecDepth 30000 in
theorem e_220_1914 {ls : ab_L} {st : List Value} {w : ab_W} : ab_Run ab_mt 220 1914 ls st w = ab_Run ab_mt 220 1915 ls (.int (nI 0) :: st) w := E_push (n := 1) rfl
set_option maxRecDepth 30000 in
theorem e_220_1915 {ls : ab_L} {w : ab_W} {x : Int32} (h : ab_fitr 2 (.int x) = true) : ab_Run ab_mt 220 1915 ls [.int x] w = some (.inl (some (.int x)), w) := E_retz rfl h
set_option maxRecDepth 30000 in
theorem e_220_1916 {ls : ab_L} {st : List Value} {w : ab_W} : ab_Run ab_mt 220 1916 ls st w = ab_Run ab_mt 220 2053 ls st w := E_goto rfl
set_option maxRecDepth 30000 in
theorem e_220_1919 {ls : ab_L} {st : List Value} {w : ab_W} (h : ab_isR (ls 1) = true) : ab_Run ab_mt 220 1919 ls st w = ab_Run ab_mt 220 1920 ls (ab_gv (ls 1) :: st) w := E_loadr (n := 1) rfl h
set_option maxRecDepth 30000 in
theorem e_220_1920 {ls : ab_L} {st : List Value} {w : ab_W} (h : ab_isR (ls 0) = true) : ab_Run ab_mt 220 1920 ls st w = ab_Run ab_mt 220 1921 ls (ab_gv (ls 0) :: st) w := E_loadr (n := 1) rfl h
set_option maxRecDepth 30000 in
theorem e_220_1921 {ls : ab_L} {st : List Value} {w : ab_W} (h : ab_isI (ls 4) = true) : ab_Run ab_mt 220 1921 ls st w = ab_Run ab_mt 220 1923 ls (ab_gv (ls 4) :: st) w := E_loadi (n := 2) rfl h
set_option maxRecDepth 30000 in
theorem e_220_1923 {ls : ab_L} {st : List Value} {w : ab_W} : ab_Run ab_mt 220 1923 ls st w = ab_Run ab_mt 220 1924 ls (.int (nI 1) :: st) w := E_push (n := 1) rfl
set_option maxRecDepth 30000 in
theorem e_220_1924 {ls : ab_L} {st : List Value} {w : ab_W} {x y : Int32} : ab_Run ab_mt 220 1924 ls (.int y :: .int x :: st) w = ab_Run ab_mt 220 1925 ls (.int (x + y) :: st) w := E_ib (f := fun x y => x + y) rfl
set_option maxRecDepth 30000 in
theorem e_220_1925 {ls : ab_L} {st : List Value} {w : ab_W} {a : Nat} {i : Int32} (h : ab_inI i (w.2 a) = true) : ab_Run ab_mt 220 1925 ls (.int i :: .ref a :: st) w = ab_Run ab_mt 220 1926 ls (.int (ab_aI i.toNatClampNeg (w.2 a)) :: st) w := E_iald rfl h
set_option maxRecDepth 30000 in
theorem e_220_1926 {ls : ab_L} {st : List Value} {w : ab_W} (h : ab_isR (ls 0) = true) : ab_Run ab_mt 220 1926 ls st w = ab_Run ab_mt 220 1927 ls (ab_gv (ls 0) :: st) w := E_loadr (n := 1) rfl h
set_option maxRecDepth 30000 in
theorem e_220_1927 {ls : ab_L} {st : List Value} {w : ab_W} (h : ab_isI (ls 4) = true) : ab_Run ab_mt 220 1927 ls st w = ab_Run ab_mt 220 1929 ls (ab_gv (ls 4) :: st) w := E_loadi (n := 2) rfl h
set_option maxRecDepth 30000 in
theorem e_220_1929 {ls : ab_L} {st : List Value} {w : ab_W} : ab_Run ab_mt 220 1929 ls st w = ab_Run ab_mt 220 1930 ls (.int (nI 2) :: st) w := E_push (n := 1) rfl
set_option maxRecDepth 30000 in
theorem e_220_1930 {ls : ab_L} {st : List Value} {w : ab_W} {x y : Int32} : ab_Run ab_mt 220 1930 ls (.int y :: .int x :: st) w = ab_Run ab_mt 220 1931 ls (.int (x + y) :: st) w := E_ib (f := fun x y => x + y) rfl
set_option maxRecDepth 30000 in
theorem e_220_1931 {ls : ab_L} {st : List Value} {w : ab_W} {a : Nat} {i : Int32} (h : ab_inI i (w.2 a) = true) : ab_Run ab_mt 220 1931 ls (.int i :: .ref a :: st) w = ab_Run ab_mt 220 1932 ls (.int (ab_aI i.toNatClampNeg (w.2 a)) :: st) w := E_iald rfl h
set_option maxRecDepth 30000 in
theorem e_220_1932 {ls : ab_L} {st : List Value} {w : ab_W} (h : ab_isR (ls 0) = true) : ab_Run ab_mt 220 1932 ls st w = ab_Run ab_mt 220 1933 ls (ab_gv (ls 0) :: st) w := E_loadr (n := 1) rfl h
set_option maxRecDepth 30000 in
theorem e_220_1933 {ls : ab_L} {st : List Value} {w : ab_W} (h : ab_isI (ls 4) = true) : ab_Run ab_mt 220 1933 ls st w = ab_Run ab_mt 220 1935 ls (ab_gv (ls 4) :: st) w := E_loadi (n := 2) rfl h
set_option maxRecDepth 30000 in
theorem e_220_1935 {ls : ab_L} {st : List Value} {w : ab_W} : ab_Run ab_mt 220 1935 ls st w = ab_Run ab_mt 220 1936 ls (.int (nI 3) :: st) w := E_push (n := 1) rfl
set_option maxRecDepth 30000 in
theorem e_220_1936 {ls : ab_L} {st : List Value} {w : ab_W} {x y : Int32} : ab_Run ab_mt 220 1936 ls (.int y :: .int x :: st) w = ab_Run ab_mt 220 1937 ls (.int (x + y) :: st) w := E_ib (f := fun x y => x + y) rfl
set_option maxRecDepth 30000 in
theorem e_220_1937 {ls : ab_L} {st : List Value} {w : ab_W} {a : Nat} {i : Int32} (h : ab_inI i (w.2 a) = true) : ab_Run ab_mt 220 1937 ls (.int i :: .ref a :: st) w = ab_Run ab_mt 220 1938 ls (.int (ab_aI i.toNatClampNeg (w.2 a)) :: st) w := E_iald rfl h
set_option maxRecDepth 30000 in
theorem e_220_1938 {ls : ab_L} {st : List Value} {w : ab_W} (h : ab_isR (ls 3) = true) : ab_Run ab_mt 220 1938 ls st w = ab_Run ab_mt 220 1939 ls (ab_gv (ls 3) :: st) w := E_loadr (n := 1) rfl h
set_option maxRecDepth 30000 in
theorem e_220_1939 {ls : ab_L} {st : List Value} {w : ab_W} {v0 v1 v2 v3 v4 : Value} (h1 : ab_recv ab_mt 219 [v0, v1, v2, v3, v4] w.2 = true) (h8 : ab_w8 st = true) : ab_Run ab_mt 220 1939 ls (v4 :: v3 :: v2 :: v1 :: v0 :: st) w = ab_aft 219 220 1939 ls st (ab_Cl 219 [v0, v1, v2, v3, v4] w) := E_call5 rfl h1 h8
set_option maxRecDepth 30000 in
theorem e_220_1942 {ls : ab_L} {st : List Value} {w : ab_W} {x : Int32} : ab_Run ab_mt 220 1942 ls (.int x :: st) w = ab_Run ab_mt 220 1944 (ab_l1 ls 5 (.int x)) st w := E_stori (n := 2) rfl
set_option maxRecDepth 30000 in
theorem e_220_1944 {ls : ab_L} {st : List Value} {w : ab_W} (h : ab_isR (ls 2) = true) : ab_Run ab_mt 220 1944 ls st w = ab_Run ab_mt 220 1945 ls (ab_gv (ls 2) :: st) w := E_loadr (n := 1) rfl h
set_option maxRecDepth 30000 in
theorem e_220_1945 {ls : ab_L} {st : List Value} {w : ab_W} (h : ab_isR (ls 0) = true) : ab_Run ab_mt 220 1945 ls st w = ab_Run ab_mt 220 1946 ls (ab_gv (ls 0) :: st) w := E_loadr (n := 1) rfl h
set_option maxRecDepth 30000 in
theorem e_220_1946 {ls : ab_L} {st : List Value} {w : ab_W} (h : ab_isI (ls 4) = true) : ab_Run ab_mt 220 1946 ls st w = ab_Run ab_mt 220 1948 ls (ab_gv (ls 4) :: st) w := E_loadi (n := 2) rfl h
set_option maxRecDepth 30000 in
theorem e_220_1948 {ls : ab_L} {st : List Value} {w : ab_W} : ab_Run ab_mt 220 1948 ls st w = ab_Run ab_mt 220 1949 ls (.int (nI 1) :: st) w := E_push (n := 1) rfl
set_option maxRecDepth 30000 in
theorem e_220_1949 {ls : ab_L} {st : List Value} {w : ab_W} {x y : Int32} : ab_Run ab_mt 220 1949 ls (.int y :: .int x :: st) w = ab_Run ab_mt 220 1950 ls (.int (x + y) :: st) w := E_ib (f := fun x y => x + y) rfl
set_option maxRecDepth 30000 in
theorem e_220_1950 {ls : ab_L} {st : List Value} {w : ab_W} {a : Nat} {i : Int32} (h : ab_inI i (w.2 a) = true) : ab_Run ab_mt 220 1950 ls (.int i :: .ref a :: st) w = ab_Run ab_mt 220 1951 ls (.int (ab_aI i.toNatClampNeg (w.2 a)) :: st) w := E_iald rfl h
set_option maxRecDepth 30000 in
theorem e_220_1951 {ls : ab_L} {st : List Value} {w : ab_W} (h : ab_isR (ls 0) = true) : ab_Run ab_mt 220 1951 ls st w = ab_Run ab_mt 220 1952 ls (ab_gv (ls 0) :: st) w := E_loadr (n := 1) rfl h
set_option maxRecDepth 30000 in
theorem e_220_1952 {ls : ab_L} {st : List Value} {w : ab_W} (h : ab_isI (ls 4) = true) : ab_Run ab_mt 220 1952 ls st w = ab_Run ab_mt 220 1954 ls (ab_gv (ls 4) :: st) w := E_loadi (n := 2) rfl h
set_option maxRecDepth 30000 in
theorem e_220_1954 {ls : ab_L} {st : List Value} {w : ab_W} : ab_Run ab_mt 220 1954 ls st w = ab_Run ab_mt 220 1955 ls (.int (nI 2) :: st) w := E_push (n := 1) rfl
set_option maxRecDepth 30000 in
theorem e_220_1955 {ls : ab_L} {st : List Value} {w : ab_W} {x y : Int32} : ab_Run ab_mt 220 1955 ls (.int y :: .int x :: st) w = ab_Run ab_mt 220 1956 ls (.int (x + y) :: st) w := E_ib (f := fun x y => x + y) rfl
set_option maxRecDepth 30000 in
theorem e_220_1956 {ls : ab_L} {st : List Value} {w : ab_W} {a : Nat} {i : Int32} (h : ab_inI i (w.2 a) = true) : ab_Run ab_mt 220 1956 ls (.int i :: .ref a :: st) w = ab_Run ab_mt 220 1957 ls (.int (ab_aI i.toNatClampNeg (w.2 a)) :: st) w := E_iald rfl h
set_option maxRecDepth 30000 in
theorem e_220_1957 {ls : ab_L} {st : List Value} {w : ab_W} (h : ab_isR (ls 0) = true) : ab_Run ab_mt 220 1957 ls st w = ab_Run ab_mt 220 1958 ls (ab_gv (ls 0) :: st) w := E_loadr (n := 1) rfl h
set_option maxRecDepth 30000 in
theorem e_220_1958 {ls : ab_L} {st : List Value} {w : ab_W} (h : ab_isI (ls 4) = true) : ab_Run ab_mt 220 1958 ls st w = ab_Run ab_mt 220 1960 ls (ab_gv (ls 4) :: st) w := E_loadi (n := 2) rfl h
set_option maxRecDepth 30000 in
theorem e_220_1960 {ls : ab_L} {st : List Value} {w : ab_W} : ab_Run ab_mt 220 1960 ls st w = ab_Run ab_mt 220 1961 ls (.int (nI 3) :: st) w := E_push (n := 1) rfl
set_option maxRecDepth 30000 in
theorem e_220_1961 {ls : ab_L} {st : List Value} {w : ab_W} {x y : Int32} : ab_Run ab_mt 220 1961 ls (.int y :: .int x :: st) w = ab_Run ab_mt 220 1962 ls (.int (x + y) :: st) w := E_ib (f := fun x y => x + y) rfl
set_option maxRecDepth 30000 in
theorem e_220_1962 {ls : ab_L} {st : List Value} {w : ab_W} {a : Nat} {i : Int32} (h : ab_inI i (w.2 a) = true) : ab_Run ab_mt 220 1962 ls (.int i :: .ref a :: st) w = ab_Run ab_mt 220 1963 ls (.int (ab_aI i.toNatClampNeg (w.2 a)) :: st) w := E_iald rfl h
set_option maxRecDepth 30000 in
theorem e_220_1963 {ls : ab_L} {st : List Value} {w : ab_W} {v0 v1 v2 v3 : Value} (h1 : ab_recv ab_mt 187 [v0, v1, v2, v3] w.2 = true) (h8 : ab_w8 st = true) : ab_Run ab_mt 220 1963 ls (v3 :: v2 :: v1 :: v0 :: st) w = ab_aft 187 220 1963 ls st (ab_Cl 187 [v0, v1, v2, v3] w) := E_call4 rfl h1 h8
set_option maxRecDepth 30000 in
theorem e_220_1966 {ls : ab_L} {st : List Value} {w : ab_W} {x : Int64} : ab_Run ab_mt 220 1966 ls (.long x :: st) w = ab_Run ab_mt 220 1968 (ab_l2 ls 6 (.long x)) st w := E_storl (n := 2) rfl
set_option maxRecDepth 30000 in
theorem e_220_1968 {ls : ab_L} {st : List Value} {w : ab_W} (h : ab_isR (ls 2) = true) : ab_Run ab_mt 220 1968 ls st w = ab_Run ab_mt 220 1969 ls (ab_gv (ls 2) :: st) w := E_loadr (n := 1) rfl h
set_option maxRecDepth 30000 in
theorem e_220_1969 {ls : ab_L} {st : List Value} {w : ab_W} {v0 : Value} (h1 : ab_recv ab_mt 106 [v0] w.2 = true) (h8 : ab_w8 st = true) : ab_Run ab_mt 220 1969 ls (v0 :: st) w = ab_aft 106 220 1969 ls st (ab_Cl 106 [v0] w) := E_call1 rfl h1 h8
set_option maxRecDepth 30000 in
theorem e_220_1972 {ls : ab_L} {st : List Value} {w : ab_W} (h : ab_isI (ls 5) = true) : ab_Run ab_mt 220 1972 ls st w = ab_Run ab_mt 220 1974 ls (ab_gv (ls 5) :: st) w := E_loadi (n := 2) rfl h
set_option maxRecDepth 30000 in
theorem e_220_1974 {ls : ab_L} {st : List Value} {w : ab_W} {x y : Int32} : ab_Run ab_mt 220 1974 ls (.int y :: .int x :: st) w = if x = y then ab_Run ab_mt 220 1979 ls st w else ab_Run ab_mt 220 1977 ls st w := E_ic_eq rfl
set_option maxRecDepth 30000 in
theorem e_220_1977 {ls : ab_L} {st : List Value} {w : ab_W} : ab_Run ab_mt 220 1977 ls st w = ab_Run ab_mt 220 1978 ls (.int (nI 0) :: st) w := E_push (n := 1) rfl
set_option maxRecDepth 30000 in
theorem e_220_1978 {ls : ab_L} {w : ab_W} {x : Int32} (h : ab_fitr 2 (.int x) = true) : ab_Run ab_mt 220 1978 ls [.int x] w = some (.inl (some (.int x)), w) := E_retz rfl h
set_option maxRecDepth 30000 in
theorem e_220_1979 {ls : ab_L} {st : List Value} {w : ab_W} (h : ab_isI (ls 5) = true) : ab_Run ab_mt 220 1979 ls st w = ab_Run ab_mt 220 1981 ls (ab_gv (ls 5) :: st) w := E_loadi (n := 2) rfl h
set_option maxRecDepth 30000 in
theorem e_220_1981 {ls : ab_L} {st : List Value} {w : ab_W} {x : Int32} : ab_Run ab_mt 220 1981 ls (.int x :: st) w = if x = 0 then ab_Run ab_mt 220 1984 ls st w else ab_Run ab_mt 220 1995 ls st w := E_if_ne rfl
set_option maxRecDepth 30000 in
theorem e_220_1984 {ls : ab_L} {st : List Value} {w : ab_W} (h : ab_isR (ls 3) = true) : ab_Run ab_mt 220 1984 ls st w = ab_Run ab_mt 220 1985 ls (ab_gv (ls 3) :: st) w := E_loadr (n := 1) rfl h
set_option maxRecDepth 30000 in
theorem e_220_1985 {ls : ab_L} {st : List Value} {w : ab_W} : ab_Run ab_mt 220 1985 ls st w = ab_Run ab_mt 220 1986 ls (.int (nI 0) :: st) w := E_push (n := 1) rfl
set_option maxRecDepth 30000 in
theorem e_220_1986 {ls : ab_L} {st : List Value} {w : ab_W} {a : Nat} {i : Int32} (h : ab_inL i (w.2 a) = true) : ab_Run ab_mt 220 1986 ls (.int i :: .ref a :: st) w = ab_Run ab_mt 220 1987 ls (.long (ab_aL i.toNatClampNeg (w.2 a)) :: st) w := E_lald rfl h
set_option maxRecDepth 30000 in
theorem e_220_1987 {ls : ab_L} {st : List Value} {w : ab_W} (h : ab_isL (ls 6) = true) (h2 : (ls 7).isNone = true) : ab_Run ab_mt 220 1987 ls st w = ab_Run ab_mt 220 1989 ls (ab_gv (ls 6) :: st) w := E_loadl (n := 2) rfl h h2
set_option maxRecDepth 30000 in
theorem e_220_1989 {ls : ab_L} {st : List Value} {w : ab_W} {x y : Int64} : ab_Run ab_mt 220 1989 ls (.long y :: .long x :: st) w = ab_Run ab_mt 220 1990 ls (.int (lg_cmp x y) :: st) w := E_lcmp rfl
set_option maxRecDepth 30000 in
theorem e_220_1990 {ls : ab_L} {st : List Value} {w : ab_W} {x : Int32} : ab_Run ab_mt 220 1990 ls (.int x :: st) w = if x = 0 then ab_Run ab_mt 220 1995 ls st w else ab_Run ab_mt 220 1993 ls st w := E_if_eq rfl
set_option maxRecDepth 30000 in
theorem e_220_1993 {ls : ab_L} {st : List Value} {w : ab_W} : ab_Run ab_mt 220 1993 ls st w = ab_Run ab_mt 220 1994 ls (.int (nI 0) :: st) w := E_push (n := 1) rfl
set_option maxRecDepth 30000 in
theorem e_220_1994 {ls : ab_L} {w : ab_W} {x : Int32} (h : ab_fitr 2 (.int x) = true) : ab_Run ab_mt 220 1994 ls [.int x] w = some (.inl (some (.int x)), w) := E_retz rfl h
set_option maxRecDepth 30000 in
theorem e_220_1995 {ls : ab_L} {st : List Value} {w : ab_W} : ab_Run ab_mt 220 1995 ls st w = ab_Run ab_mt 220 2053 ls st w := E_goto rfl
set_option maxRecDepth 30000 in
theorem e_220_1998 {ls : ab_L} {st : List Value} {w : ab_W} (h : ab_isR (ls 1) = true) : ab_Run ab_mt 220 1998 ls st w = ab_Run ab_mt 220 1999 ls (ab_gv (ls 1) :: st) w := E_loadr (n := 1) rfl h
set_option maxRecDepth 30000 in
theorem e_220_1999 {ls : ab_L} {st : List Value} {w : ab_W} {v0 : Value} (h1 : ab_recv ab_mt 30 [v0] w.2 = true) (h8 : ab_w8 st = true) : ab_Run ab_mt 220 1999 ls (v0 :: st) w = ab_aft 30 220 1999 ls st (ab_Cl 30 [v0] w) := E_call1 rfl h1 h8
set_option maxRecDepth 30000 in
theorem e_220_2002 {ls : ab_L} {st : List Value} {w : ab_W} {x : UInt64} : ab_Run ab_mt 220 2002 ls (.double x :: st) w = ab_Run ab_mt 220 2004 (ab_l2 ls 5 (.double x)) st w := E_stord (n := 2) rfl
set_option maxRecDepth 30000 in
theorem e_220_2004 {ls : ab_L} {st : List Value} {w : ab_W} (h : ab_isR (ls 2) = true) : ab_Run ab_mt 220 2004 ls st w = ab_Run ab_mt 220 2005 ls (ab_gv (ls 2) :: st) w := E_loadr (n := 1) rfl h
set_option maxRecDepth 30000 in
theorem e_220_2005 {ls : ab_L} {st : List Value} {w : ab_W} {v0 : Value} (h1 : ab_recv ab_mt 189 [v0] w.2 = true) (h8 : ab_w8 st = true) : ab_Run ab_mt 220 2005 ls (v0 :: st) w = ab_aft 189 220 2005 ls st (ab_Cl 189 [v0] w) := E_call1 rfl h1 h8
set_option maxRecDepth 30000 in
theorem e_220_2008 {ls : ab_L} {st : List Value} {w : ab_W} {x : UInt64} : ab_Run ab_mt 220 2008 ls (.double x :: st) w = ab_Run ab_mt 220 2010 (ab_l2 ls 7 (.double x)) st w := E_stord (n := 2) rfl
set_option maxRecDepth 30000 in
theorem e_220_2010 {ls : ab_L} {st : List Value} {w : ab_W} (h : ab_isD (ls 5) = true) (h2 : (ls 6).isNone = true) : ab_Run ab_mt 220 2010 ls st w = ab_Run ab_mt 220 2012 ls (ab_gv (ls 5) :: st) w := E_loadd (n := 2) rfl h h2
set_option maxRecDepth 30000 in
theorem e_220_2012 {ls : ab_L} {st : List Value} {w : ab_W} (h : ab_isD (ls 7) = true) (h2 : (ls 8).isNone = true) : ab_Run ab_mt 220 2012 ls st w = ab_Run ab_mt 220 2014 ls (ab_gv (ls 7) :: st) w := E_loadd (n := 2) rfl h h2
set_option maxRecDepth 30000 in
theorem e_220_2014 {ls : ab_L} {st : List Value} {w : ab_W} {x y : UInt64} : ab_Run ab_mt 220 2014 ls (.double y :: .double x :: st) w = ab_Run ab_mt 220 2015 ls (.int (Op.cmpValue (FP.dcmp x y) .l) :: st) w := E_dcmp rfl
set_option maxRecDepth 30000 in
theorem e_220_2015 {ls : ab_L} {st : List Value} {w : ab_W} {x : Int32} : ab_Run ab_mt 220 2015 ls (.int x :: st) w = if x = 0 then ab_Run ab_mt 220 2036 ls st w else ab_Run ab_mt 220 2018 ls st w := E_if_eq rfl
set_option maxRecDepth 30000 in
theorem e_220_2018 {ls : ab_L} {st : List Value} {w : ab_W} (h : ab_isD (ls 5) = true) (h2 : (ls 6).isNone = true) : ab_Run ab_mt 220 2018 ls st w = ab_Run ab_mt 220 2020 ls (ab_gv (ls 5) :: st) w := E_loadd (n := 2) rfl h h2
set_option maxRecDepth 30000 in
theorem e_220_2020 {ls : ab_L} {st : List Value} {w : ab_W} (h : ab_isD (ls 5) = true) (h2 : (ls 6).isNone = true) : ab_Run ab_mt 220 2020 ls st w = ab_Run ab_mt 220 2022 ls (ab_gv (ls 5) :: st) w := E_loadd (n := 2) rfl h h2
set_option maxRecDepth 30000 in
theorem e_220_2022 {ls : ab_L} {st : List Value} {w : ab_W} {x y : UInt64} : ab_Run ab_mt 220 2022 ls (.double y :: .double x :: st) w = ab_Run ab_mt 220 2023 ls (.int (Op.cmpValue (FP.dcmp x y) .l) :: st) w := E_dcmp rfl
set_option maxRecDepth 30000 in
theorem e_220_2023 {ls : ab_L} {st : List Value} {w : ab_W} {x : Int32} : ab_Run ab_mt 220 2023 ls (.int x :: st) w = if x = 0 then ab_Run ab_mt 220 2034 ls st w else ab_Run ab_mt 220 2026 ls st w := E_if_eq rfl
set_option maxRecDepth 30000 in
theorem e_220_2026 {ls : ab_L} {st : List Value} {w : ab_W} (h : ab_isD (ls 7) = true) (h2 : (ls 8).isNone = true) : ab_Run ab_mt 220 2026 ls st w = ab_Run ab_mt 220 2028 ls (ab_gv (ls 7) :: st) w := E_loadd (n := 2) rfl h h2
set_option maxRecDepth 30000 in
theorem e_220_2028 {ls : ab_L} {st : List Value} {w : ab_W} (h : ab_isD (ls 7) = true) (h2 : (ls 8).isNone = true) : ab_Run ab_mt 220 2028 ls st w = ab_Run ab_mt 220 2030 ls (ab_gv (ls 7) :: st) w := E_loadd (n := 2) rfl h h2
set_option maxRecDepth 30000 in
theorem e_220_2030 {ls : ab_L} {st : List Value} {w : ab_W} {x y : UInt64} : ab_Run ab_mt 220 2030 ls (.double y :: .double x :: st) w = ab_Run ab_mt 220 2031 ls (.int (Op.cmpValue (FP.dcmp x y) .l) :: st) w := E_dcmp rfl
set_option maxRecDepth 30000 in
theorem e_220_2031 {ls : ab_L} {st : List Value} {w : ab_W} {x : Int32} : ab_Run ab_mt 220 2031 ls (.int x :: st) w = if x = 0 then ab_Run ab_mt 220 2034 ls st w else ab_Run ab_mt 220 2036 ls st w := E_if_ne rfl
set_option maxRecDepth 30000 in
theorem e_220_2034 {ls : ab_L} {st : List Value} {w : ab_W} : ab_Run ab_mt 220 2034 ls st w = ab_Run ab_mt 220 2035 ls (.int (nI 0) :: st) w := E_push (n := 1) rfl
set_option maxRecDepth 30000 in
theorem e_220_2035 {ls : ab_L} {w : ab_W} {x : Int32} (h : ab_fitr 2 (.int x) = true) : ab_Run ab_mt 220 2035 ls [.int x] w = some (.inl (some (.int x)), w) := E_retz rfl h
set_option maxRecDepth 30000 in
theorem e_220_2036 {ls : ab_L} {st : List Value} {w : ab_W} : ab_Run ab_mt 220 2036 ls st w = ab_Run ab_mt 220 2053 ls st w := E_goto rfl
set_option maxRecDepth 30000 in
theorem e_220_2039 {ls : ab_L} {st : List Value} {w : ab_W} (h : ab_isR (ls 1) = true) : ab_Run ab_mt 220 2039 ls st w = ab_Run ab_mt 220 2040 ls (ab_gv (ls 1) :: st) w := E_loadr (n := 1) rfl h
set_option maxRecDepth 30000 in
theorem e_220_2040 {ls : ab_L} {st : List Value} {w : ab_W} {v0 : Value} (h1 : ab_recv ab_mt 31 [v0] w.2 = true) (h8 : ab_w8 st = true) : ab_Run ab_mt 220 2040 ls (v0 :: st) w = ab_aft 31 220 2040 ls st (ab_Cl 31 [v0] w) := E_call1 rfl h1 h8
set_option maxRecDepth 30000 in
theorem e_220_2043 {ls : ab_L} {st : List Value} {w : ab_W} (h : ab_isR (ls 2) = true) : ab_Run ab_mt 220 2043 ls st w = ab_Run ab_mt 220 2044 ls (ab_gv (ls 2) :: st) w := E_loadr (n := 1) rfl h
set_option maxRecDepth 30000 in
theorem e_220_2044 {ls : ab_L} {st : List Value} {w : ab_W} {v0 : Value} (h1 : ab_recv ab_mt 192 [v0] w.2 = true) (h8 : ab_w8 st = true) : ab_Run ab_mt 220 2044 ls (v0 :: st) w = ab_aft 192 220 2044 ls st (ab_Cl 192 [v0] w) := E_call1 rfl h1 h8
set_option maxRecDepth 30000 in
theorem e_220_2047 {ls : ab_L} {st : List Value} {w : ab_W} {x y : Int64} : ab_Run ab_mt 220 2047 ls (.long y :: .long x :: st) w = ab_Run ab_mt 220 2048 ls (.int (lg_cmp x y) :: st) w := E_lcmp rfl
set_option maxRecDepth 30000 in
theorem e_220_2048 {ls : ab_L} {st : List Value} {w : ab_W} {x : Int32} : ab_Run ab_mt 220 2048 ls (.int x :: st) w = if x = 0 then ab_Run ab_mt 220 2053 ls st w else ab_Run ab_mt 220 2051 ls st w := E_if_eq rfl
set_option maxRecDepth 30000 in
theorem e_220_2051 {ls : ab_L} {st : List Value} {w : ab_W} : ab_Run ab_mt 220 2051 ls st w = ab_Run ab_mt 220 2052 ls (.int (nI 0) :: st) w := E_push (n := 1) rfl
set_option maxRecDepth 30000 in
theorem e_220_2052 {ls : ab_L} {w : ab_W} {x : Int32} (h : ab_fitr 2 (.int x) = true) : ab_Run ab_mt 220 2052 ls [.int x] w = some (.inl (some (.int x)), w) := E_retz rfl h
set_option maxRecDepth 30000 in
theorem e_220_2053 {ls : ab_L} {st : List Value} {w : ab_W} (h : ab_isI (ls 4) = true) : ab_Run ab_mt 220 2053 ls st w = ab_Run ab_mt 220 2056 (ab_l1 ls 4 (.int (ab_gi (ls 4) + (nI 4)))) st w := E_iinc rfl h
set_option maxRecDepth 30000 in
theorem e_220_2056 {ls : ab_L} {st : List Value} {w : ab_W} : ab_Run ab_mt 220 2056 ls st w = ab_Run ab_mt 220 23 ls st w := E_goto rfl
set_option maxRecDepth 30000 in
theorem e_220_2059 {ls : ab_L} {st : List Value} {w : ab_W} : ab_Run ab_mt 220 2059 ls st w = ab_Run ab_mt 220 2060 ls (.int (nI 1) :: st) w := E_push (n := 1) rfl
set_option maxRecDepth 30000 in
theorem e_220_2060 {ls : ab_L} {w : ab_W} {x : Int32} (h : ab_fitr 2 (.int x) = true) : ab_Run ab_mt 220 2060 ls [.int x] w = some (.inl (some (.int x)), w) := E_retz rfl h
theorem x_220_332 {ls : ab_L} {rest : List Value} {E : Nat} {w : ab_W} : ab_aft 131 220 332 ls rest (some (.inr E, w)) = some (.inr E, w) := ab_aft_x rfl rfl (by unfold ab_hand; rfl)
theorem x_220_388 {ls : ab_L} {rest : List Value} {E : Nat} {w : ab_W} : ab_aft 132 220 388 ls rest (some (.inr E, w)) = some (.inr E, w) := ab_aft_x rfl rfl (by unfold ab_hand; rfl)
theorem x_220_620 {ls : ab_L} {rest : List Value} {E : Nat} {w : ab_W} : ab_aft 138 220 620 ls rest (some (.inr E, w)) = some (.inr E, w) := ab_aft_x rfl rfl (by unfold ab_hand; rfl)
theorem x_220_720 {ls : ab_L} {rest : List Value} {E : Nat} {w : ab_W} : ab_aft 150 220 720 ls rest (some (.inr E, w)) = some (.inr E, w) := ab_aft_x rfl rfl (by unfold ab_hand; rfl)
theorem x_220_982 {ls : ab_L} {rest : List Value} {E : Nat} {w : ab_W} : ab_aft 15 220 982 ls rest (some (.inr E, w)) = some (.inr E, w) := ab_aft_x rfl rfl (by unfold ab_hand; rfl)
theorem x_220_986 {ls : ab_L} {rest : List Value} {E : Nat} {w : ab_W} : ab_aft 147 220 986 ls rest (some (.inr E, w)) = some (.inr E, w) := ab_aft_x rfl rfl (by unfold ab_hand; rfl)
theorem x_220_1038 {ls : ab_L} {rest : List Value} {E : Nat} {w : ab_W} : ab_aft 159 220 1038 ls rest (some (.inr E, w)) = some (.inr E, w) := ab_aft_x rfl rfl (by unfold ab_hand; rfl)
theorem x_220_1093 {ls : ab_L} {rest : List Value} {E : Nat} {w : ab_W} : ab_aft 162 220 1093 ls rest (some (.inr E, w)) = some (.inr E, w) := ab_aft_x rfl rfl (by unfold ab_hand; rfl)
theorem x_220_1192 {ls : ab_L} {rest : List Value} {E : Nat} {w : ab_W} : ab_aft 168 220 1192 ls rest (some (.inr E, w)) = some (.inr E, w) := ab_aft_x rfl rfl (by unfold ab_hand; rfl)
theorem x_220_1327 {ls : ab_L} {rest : List Value} {E : Nat} {w : ab_W} : ab_aft 171 220 1327 ls rest (some (.inr E, w)) = some (.inr E, w) := ab_aft_x rfl rfl (by unfold ab_hand; rfl)
theorem x_220_1394 {ls : ab_L} {rest : List Value} {E : Nat} {w : ab_W} : ab_aft 172 220 1394 ls rest (some (.inr E, w)) = some (.inr E, w) := ab_aft_x rfl rfl (by unfold ab_hand; rfl)
theorem x_220_1529 {ls : ab_L} {rest : List Value} {E : Nat} {w : ab_W} : ab_aft 176 220 1529 ls rest (some (.inr E, w)) = some (.inr E, w) := ab_aft_x rfl rfl (by unfold ab_hand; rfl)
theorem x_220_1628 {ls : ab_L} {rest : List Value} {E : Nat} {w : ab_W} : ab_aft 178 220 1628 ls rest (some (.inr E, w)) = some (.inr E, w) := ab_aft_x rfl rfl (by unfold ab_hand; rfl)
theorem x_220_1684 {ls : ab_L} {rest : List Value} {E : Nat} {w : ab_W} : ab_aft 183 220 1684 ls rest (some (.inr E, w)) = some (.inr E, w) := ab_aft_x rfl rfl (by unfold ab_hand; rfl)
theorem x_220_1783 {ls : ab_L} {rest : List Value} {E : Nat} {w : ab_W} : ab_aft 185 220 1783 ls rest (some (.inr E, w)) = some (.inr E, w) := ab_aft_x rfl rfl (by unfold ab_hand; rfl)
theorem x_220_1883 {ls : ab_L} {rest : List Value} {E : Nat} {w : ab_W} : ab_aft 186 220 1883 ls rest (some (.inr E, w)) = some (.inr E, w) := ab_aft_x rfl rfl (by unfold ab_hand; rfl)
theorem x_220_1963 {ls : ab_L} {rest : List Value} {E : Nat} {w : ab_W} : ab_aft 187 220 1963 ls rest (some (.inr E, w)) = some (.inr E, w) := ab_aft_x rfl rfl (by unfold ab_hand; rfl)
theorem x_220_2005 {ls : ab_L} {rest : List Value} {E : Nat} {w : ab_W} : ab_aft 189 220 2005 ls rest (some (.inr E, w)) = some (.inr E, w) := ab_aft_x rfl rfl (by unfold ab_hand; rfl)
theorem x_220_2040 {ls : ab_L} {rest : List Value} {E : Nat} {w : ab_W} : ab_aft 31 220 2040 ls rest (some (.inr E, w)) = some (.inr E, w) := ab_aft_x rfl rfl (by unfold ab_hand; rfl)
theorem x_220_2044 {ls : ab_L} {rest : List Value} {E : Nat} {w : ab_W} : ab_aft 192 220 2044 ls rest (some (.inr E, w)) = some (.inr E, w) := ab_aft_x rfl rfl (by unfold ab_hand; rfl)
theorem e_221_0 {ls : ab_L} {st : List Value} {w : ab_W} (h : ab_isD (ls 0) = true) (h2 : (ls 1).isNone = true) : ab_Run ab_mt 221 0 ls st w = ab_Run ab_mt 221 1 ls (ab_gv (ls 0) :: st) w := E_loadd (n := 1) rfl h h2
theorem e_221_1 {ls : ab_L} {st : List Value} {w : ab_W} {v0 : Value} (h1 : ab_recv ab_mt 222 [v0] w.2 = true) (h8 : ab_w8 st = true) : ab_Run ab_mt 221 1 ls (v0 :: st) w = ab_aft 222 221 1 ls st (ab_Cl 222 [v0] w) := E_call1 rfl h1 h8
theorem e_221_4 {ls : ab_L} {st : List Value} {w : ab_W} {x : Int32} : ab_Run ab_mt 221 4 ls (.int x :: st) w = if x = 0 then ab_Run ab_mt 221 7 ls st w else ab_Run ab_mt 221 12 ls st w := E_if_ne rfl
theorem e_221_7 {ls : ab_L} {st : List Value} {w : ab_W} (h : ab_isD (ls 0) = true) (h2 : (ls 1).isNone = true) : ab_Run ab_mt 221 7 ls st w = ab_Run ab_mt 221 8 ls (ab_gv (ls 0) :: st) w := E_loadd (n := 1) rfl h h2
theorem e_221_8 {ls : ab_L} {st : List Value} {w : ab_W} {x : UInt64} (h8 : ab_w8 st = true) : ab_Run ab_mt 221 8 ls (.double x :: st) w = ab_Run ab_mt 221 11 ls (.long x.toInt64 :: st) w := E_bits rfl h8
theorem e_221_11 {ls : ab_L} {w : ab_W} {x : Int64} : ab_Run ab_mt 221 11 ls [.long x] w = some (.inl (some (.long x)), w) := E_retl rfl
theorem e_221_12 {ls : ab_L} {st : List Value} {w : ab_W} : ab_Run ab_mt 221 12 ls st w = ab_Run ab_mt 221 15 ls (.long (lN 9221120237041090560) :: st) w := E_push (n := 3) rfl
theorem e_221_15 {ls : ab_L} {w : ab_W} {x : Int64} : ab_Run ab_mt 221 15 ls [.long x] w = some (.inl (some (.long x)), w) := E_retl rfl
theorem rv_221 {σ : ab_S} {x0 : UInt64} : ab_recv ab_mt 221 [.double x0] σ = true := rfl
theorem e_222_0 {ls : ab_L} {st : List Value} {w : ab_W} (h : ab_isD (ls 0) = true) (h2 : (ls 1).isNone = true) : ab_Run ab_mt 222 0 ls st w = ab_Run ab_mt 222 1 ls (ab_gv (ls 0) :: st) w := E_loadd (n := 1) rfl h h2
theorem e_222_1 {ls : ab_L} {st : List Value} {w : ab_W} (h : ab_isD (ls 0) = true) (h2 : (ls 1).isNone = true) : ab_Run ab_mt 222 1 ls st w = ab_Run ab_mt 222 2 ls (ab_gv (ls 0) :: st) w := E_loadd (n := 1) rfl h h2
theorem e_222_2 {ls : ab_L} {st : List Value} {w : ab_W} {x y : UInt64} : ab_Run ab_mt 222 2 ls (.double y :: .double x :: st) w = ab_Run ab_mt 222 3 ls (.int (Op.cmpValue (FP.dcmp x y) .l) :: st) w := E_dcmp rfl
theorem e_222_3 {ls : ab_L} {st : List Value} {w : ab_W} {x : Int32} : ab_Run ab_mt 222 3 ls (.int x :: st) w = if x = 0 then ab_Run ab_mt 222 10 ls st w else ab_Run ab_mt 222 6 ls st w := E_if_eq rfl
theorem e_222_6 {ls : ab_L} {st : List Value} {w : ab_W} : ab_Run ab_mt 222 6 ls st w = ab_Run ab_mt 222 7 ls (.int (nI 1) :: st) w := E_push (n := 1) rfl
theorem e_222_7 {ls : ab_L} {st : List Value} {w : ab_W} : ab_Run ab_mt 222 7 ls st w = ab_Run ab_mt 222 11 ls st w := E_goto rfl
theorem e_222_10 {ls : ab_L} {st : List Value} {w : ab_W} : ab_Run ab_mt 222 10 ls st w = ab_Run ab_mt 222 11 ls (.int (nI 0) :: st) w := E_push (n := 1) rfl
theorem e_222_11 {ls : ab_L} {w : ab_W} {x : Int32} (h : ab_fitr 2 (.int x) = true) : ab_Run ab_mt 222 11 ls [.int x] w = some (.inl (some (.int x)), w) := E_retz rfl h
theorem rv_222 {σ : ab_S} {x0 : UInt64} : ab_recv ab_mt 222 [.double x0] σ = true := rfl
