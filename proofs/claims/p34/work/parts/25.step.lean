/-! ===== equations of runs, as a simplifier takes them ===== -/
noncomputable def ab_Cl (y : Nat) (as : List Value) (w : ab_W) : Option ab_R := ab_Run ab_mt y 0 (ab_ent 0 as) [] w
def ab_isI : Option Value → Bool
  | some (.int _) => true
  | _ => false
def ab_isR : Option Value → Bool
  | some (.ref _) => true
  | _ => false
def ab_isL : Option Value → Bool
  | some (.long _) => true
  | _ => false
def ab_isD : Option Value → Bool
  | some (.double _) => true
  | _ => false
def ab_gv (o : Option Value) : Value := o.getD .null
def ab_isF (ci kk : Nat) : Option ab_C → Bool
  | some (.inr (c, fs)) => c == ci && decide (kk < fs.length)
  | _ => false
def ab_fv (kk : Nat) : Option ab_C → Value
  | some (.inr (_, fs)) => fs.getD kk .null
  | _ => .null
def ab_sf (kk : Nat) (v : Value) : Option ab_C → Option ab_C
  | some (.inr (c, fs)) => some (.inr (c, fs.set kk v))
  | _ => none
def ab_isO (ci : Nat) : Option ab_C → Bool
  | some (.inr (c, _)) => c == ci
  | _ => false
def ab_inb (i : Int32) (n : Nat) : Bool := decide (¬ (i < 0 ∨ n ≤ i.toNatClampNeg))
def ab_inI (i : Int32) : Option ab_C → Bool
  | some (.inl (n, .inl _)) => ab_inb i n
  | some (.inl (n, .inr (.inr (.inl _)))) => ab_inb i n
  | _ => false
def ab_aI (k : Nat) : Option ab_C → Int32
  | some (.inl (_, .inl f)) => f k
  | some (.inl (_, .inr (.inr (.inl f)))) => (f k).toInt32
  | _ => 0
def ab_inW (i : Int32) : Option ab_C → Bool
  | some (.inl (n, .inl _)) => ab_inb i n
  | _ => false
def ab_sI (k : Nat) (x : Int32) : Option ab_C → Option ab_C
  | some (.inl (n, .inl f)) => some (.inl (n, .inl (ab_up f k x)))
  | _ => none
def ab_inL (i : Int32) : Option ab_C → Bool
  | some (.inl (n, .inr (.inl _))) => ab_inb i n
  | _ => false
def ab_aL (k : Nat) : Option ab_C → Int64
  | some (.inl (_, .inr (.inl f))) => f k
  | _ => 0
def ab_sL (k : Nat) (x : Int64) : Option ab_C → Option ab_C
  | some (.inl (n, .inr (.inl f))) => some (.inl (n, .inr (.inl (ab_up f k x))))
  | _ => none
def ab_inQ (i : Int32) : Option ab_C → Bool
  | some (.inl (n, .inr (.inr (.inr (.inr f))))) => ab_inb i n && (f i.toNatClampNeg).isSome
  | _ => false
def ab_aQ (k : Nat) : Option ab_C → Nat
  | some (.inl (_, .inr (.inr (.inr (.inr f))))) => (f k).getD 0
  | _ => 0
def ab_inP (i : Int32) : Option ab_C → Bool
  | some (.inl (n, .inr (.inr (.inr (.inr _))))) => ab_inb i n
  | _ => false
def ab_sQ (k x : Nat) : Option ab_C → Option ab_C
  | some (.inl (n, .inr (.inr (.inr (.inr f))))) => some (.inl (n, .inr (.inr (.inr (.inr (ab_up f k (some x)))))))
  | _ => none
def ab_isA : Option ab_C → Bool
  | some (.inl (_, .inl _)) => true
  | some (.inl (_, .inr (.inr (.inl _)))) => true
  | some (.inl (_, .inr (.inr (.inr (.inr _))))) => true
  | _ => false
def ab_ln : Option ab_C → Nat
  | some (.inl (n, _)) => n
  | _ => 0
def ab_w8 (st : List Value) : Bool := decide ((st.map fun v => v.category).sum ≤ 8)
def ab_inC (sp dp n : Int32) : Option ab_C → Option ab_C → Bool
  | some (.inl (n0, .inl _)), some (.inl (n1, .inl _)) => decide (¬ sp < 0) && decide (¬ dp < 0) && decide (¬ n < 0) && decide (sp.toNatClampNeg + n.toNatClampNeg ≤ n0) && decide (dp.toNatClampNeg + n.toNatClampNeg ≤ n1)
  | _, _ => false
def ab_sC (sp dp n : Nat) : Option ab_C → Option ab_C → Option ab_C
  | some (.inl (_, .inl f)), some (.inl (n1, .inl g)) => some (.inl (n1, .inl (ab_cpy f g sp dp n)))
  | _, _ => none
/-- behind a call -/
noncomputable def ab_aft (y m pc : Nat) (ls : ab_L) (rest : List Value) : Option ab_R → Option ab_R
  | none => none
  | some (.inl v, w') => ab_Run ab_mt m (pc + 3) ls (v.toList ++ rest) w'
  | some (.inr E, w') => if ab_thr ab_mt y = true then match ab_hand ab_mt m pc E with
    | none => if ab_thr ab_mt m = true then some (.inr E, w') else none
    | some h => ab_Run ab_mt m h (fun _ => none) [] w'
    else none
theorem ab_aft_v {y m pc : Nat} {ls : ab_L} {rest : List Value} {w' : ab_W} : ab_aft y m pc ls rest (some (.inl none, w')) = ab_Run ab_mt m (pc + 3) ls rest w' := rfl
theorem ab_aft_r {y m pc : Nat} {ls : ab_L} {rest : List Value} {w' : ab_W} {v : Value} : ab_aft y m pc ls rest (some (.inl (some v), w')) = ab_Run ab_mt m (pc + 3) ls (v :: rest) w' := rfl
theorem ab_aft_x {y m pc E : Nat} {ls : ab_L} {rest : List Value} {w' : ab_W} (h1 : ab_thr ab_mt y = true) (h2 : ab_thr ab_mt m = true) (h3 : ab_hand ab_mt m pc E = none) : ab_aft y m pc ls rest (some (.inr E, w')) = some (.inr E, w') := by
  show (if ab_thr ab_mt y = true then _ else _) = _
  rw [if_pos h1, h3]
  show (if ab_thr ab_mt m = true then _ else _) = _
  rw [if_pos h2]
theorem ab_aft_h {y m pc E h : Nat} {ls : ab_L} {rest : List Value} {w' : ab_W} (h1 : ab_thr ab_mt y = true) (h3 : ab_hand ab_mt m pc E = some h) : ab_aft y m pc ls rest (some (.inr E, w')) = ab_Run ab_mt m h (fun _ => none) [] w' := by
  show (if ab_thr ab_mt y = true then _ else _) = _
  rw [if_pos h1, h3]
def ab_gi : Option Value → Int32
  | some (.int x) => x
  | _ => 0
section AbStep
variable {m pc : Nat} {ls : ab_L} {st : List Value} {w : ab_W}
theorem E_go {a : ab_T} {pc' : Nat} {ls' : ab_L} {st' : List Value} {σ' : ab_S} (hf : ab_fetch ab_mt m pc = some (.inl a)) (ha : a pc ls st w.2 = some (pc', ls', st', σ')) : ab_Run ab_mt m pc ls st w = ab_Run ab_mt m pc' ls' st' (w.1, σ') := ab_Run_act ab_mt hf ha
theorem E_push {v : Value} {n : Nat} (hf : ab_fetch ab_mt m pc = some (.inl (ab_push v n))) : ab_Run ab_mt m pc ls st w = ab_Run ab_mt m (pc + n) ls (v :: st) w := E_go hf rfl
theorem E_loadi {i n : Nat} (hf : ab_fetch ab_mt m pc = some (.inl (ab_loadi i n))) (h : ab_isI (ls i) = true) : ab_Run ab_mt m pc ls st w = ab_Run ab_mt m (pc + n) ls (ab_gv (ls i) :: st) w := by
  cases e : ls i with
  | none => rw [e] at h; cases h
  | some v =>
    rw [e] at h
    cases v <;> first | (cases h; done) | (refine E_go hf ?_; unfold ab_loadi; rw [e]; rfl)
theorem E_loadr {i n : Nat} (hf : ab_fetch ab_mt m pc = some (.inl (ab_loadr i n))) (h : ab_isR (ls i) = true) : ab_Run ab_mt m pc ls st w = ab_Run ab_mt m (pc + n) ls (ab_gv (ls i) :: st) w := by
  cases e : ls i with
  | none => rw [e] at h; cases h
  | some v =>
    rw [e] at h
    cases v <;> first | (cases h; done) | (refine E_go hf ?_; unfold ab_loadr; rw [e]; rfl)
theorem E_loadl {i n : Nat} (hf : ab_fetch ab_mt m pc = some (.inl (ab_loadl i n))) (h : ab_isL (ls i) = true) (h2 : (ls (i + 1)).isNone = true) : ab_Run ab_mt m pc ls st w = ab_Run ab_mt m (pc + n) ls (ab_gv (ls i) :: st) w := by
  have h2 := Option.isNone_iff_eq_none.mp h2
  cases e : ls i with
  | none => rw [e] at h; cases h
  | some v =>
    rw [e] at h
    cases v <;> first | (cases h; done) | (refine E_go hf ?_; unfold ab_loadl; rw [e, h2]; rfl)
theorem E_loadd {i n : Nat} (hf : ab_fetch ab_mt m pc = some (.inl (ab_loadd i n))) (h : ab_isD (ls i) = true) (h2 : (ls (i + 1)).isNone = true) : ab_Run ab_mt m pc ls st w = ab_Run ab_mt m (pc + n) ls (ab_gv (ls i) :: st) w := by
  have h2 := Option.isNone_iff_eq_none.mp h2
  cases e : ls i with
  | none => rw [e] at h; cases h
  | some v =>
    rw [e] at h
    cases v <;> first | (cases h; done) | (refine E_go hf ?_; unfold ab_loadd; rw [e, h2]; rfl)
theorem E_stori {i n : Nat} {x : Int32} (hf : ab_fetch ab_mt m pc = some (.inl (ab_stori i n))) : ab_Run ab_mt m pc ls (.int x :: st) w = ab_Run ab_mt m (pc + n) (ab_l1 ls i (.int x)) st w := E_go hf rfl
theorem E_storr {i n : Nat} {x : Nat} (hf : ab_fetch ab_mt m pc = some (.inl (ab_storr i n))) : ab_Run ab_mt m pc ls (.ref x :: st) w = ab_Run ab_mt m (pc + n) (ab_l1 ls i (.ref x)) st w := E_go hf rfl
theorem E_storl {i n : Nat} {x : Int64} (hf : ab_fetch ab_mt m pc = some (.inl (ab_storl i n))) : ab_Run ab_mt m pc ls (.long x :: st) w = ab_Run ab_mt m (pc + n) (ab_l2 ls i (.long x)) st w := E_go hf rfl
theorem E_stord {i n : Nat} {x : UInt64} (hf : ab_fetch ab_mt m pc = some (.inl (ab_stord i n))) : ab_Run ab_mt m pc ls (.double x :: st) w = ab_Run ab_mt m (pc + n) (ab_l2 ls i (.double x)) st w := E_go hf rfl
theorem E_iinc {i : Nat} {k : Int32} (hf : ab_fetch ab_mt m pc = some (.inl (ab_iinc i k))) (h : ab_isI (ls i) = true) : ab_Run ab_mt m pc ls st w = ab_Run ab_mt m (pc + 3) (ab_l1 ls i (.int (ab_gi (ls i) + k))) st w := by
  cases e : ls i with
  | none => rw [e] at h; cases h
  | some v =>
    rw [e] at h
    cases v <;> first | (cases h; done) | (refine E_go hf ?_; unfold ab_iinc; rw [e]; rfl)
theorem E_ib {f : Int32 → Int32 → Int32} {x y : Int32} (hf : ab_fetch ab_mt m pc = some (.inl (ab_ib f))) : ab_Run ab_mt m pc ls (.int y :: .int x :: st) w = ab_Run ab_mt m (pc + 1) ls (.int (f x y) :: st) w := E_go hf rfl
theorem E_idv {f : Int32 → Int32 → Int32} {x y : Int32} (hf : ab_fetch ab_mt m pc = some (.inl (ab_idv f))) (h : ¬ y = 0) : ab_Run ab_mt m pc ls (.int y :: .int x :: st) w = ab_Run ab_mt m (pc + 1) ls (.int (f x y) :: st) w := by
  refine E_go hf ?_
  unfold ab_idv; simp only [if_neg h]
theorem E_lb {f : Int64 → Int64 → Int64} {x y : Int64} (hf : ab_fetch ab_mt m pc = some (.inl (ab_lb f))) : ab_Run ab_mt m pc ls (.long y :: .long x :: st) w = ab_Run ab_mt m (pc + 1) ls (.long (f x y) :: st) w := E_go hf rfl
theorem E_ldv {f : Int64 → Int64 → Int64} {x y : Int64} (hf : ab_fetch ab_mt m pc = some (.inl (ab_ldv f))) (h : ¬ y = 0) : ab_Run ab_mt m pc ls (.long y :: .long x :: st) w = ab_Run ab_mt m (pc + 1) ls (.long (f x y) :: st) w := by
  refine E_go hf ?_
  unfold ab_ldv; simp only [if_neg h]
theorem E_lsh {y : Int32} {x : Int64} (hf : ab_fetch ab_mt m pc = some (.inl (ab_lsh))) : ab_Run ab_mt m pc ls (.int y :: .long x :: st) w = ab_Run ab_mt m (pc + 1) ls (.long (x <<< (y.toInt64 &&& 63)) :: st) w := E_go hf rfl
theorem E_i2l {x : Int32} (hf : ab_fetch ab_mt m pc = some (.inl (ab_i2l))) : ab_Run ab_mt m pc ls (.int x :: st) w = ab_Run ab_mt m (pc + 1) ls (.long x.toInt64 :: st) w := E_go hf rfl
theorem E_l2i {x : Int64} (hf : ab_fetch ab_mt m pc = some (.inl (ab_l2i))) : ab_Run ab_mt m pc ls (.long x :: st) w = ab_Run ab_mt m (pc + 1) ls (.int x.toInt32 :: st) w := E_go hf rfl
theorem E_ing {x : Int32} (hf : ab_fetch ab_mt m pc = some (.inl (ab_ing))) : ab_Run ab_mt m pc ls (.int x :: st) w = ab_Run ab_mt m (pc + 1) ls (.int (-x) :: st) w := E_go hf rfl
theorem E_dx2 {x y : Int32} {z : Nat} (hf : ab_fetch ab_mt m pc = some (.inl (ab_dx2))) : ab_Run ab_mt m pc ls (.int x :: .int y :: .ref z :: st) w = ab_Run ab_mt m (pc + 1) ls (.int x :: .int y :: .ref z :: .int x :: st) w := E_go hf rfl
theorem E_lng {x : Int64} (hf : ab_fetch ab_mt m pc = some (.inl (ab_lng))) : ab_Run ab_mt m pc ls (.long x :: st) w = ab_Run ab_mt m (pc + 1) ls (.long (-x) :: st) w := E_go hf rfl
theorem E_i2d {x : Int32} (hf : ab_fetch ab_mt m pc = some (.inl (ab_i2d))) : ab_Run ab_mt m pc ls (.int x :: st) w = ab_Run ab_mt m (pc + 1) ls (.double (FP.i2d x) :: st) w := E_go hf rfl
theorem E_l2d {x : Int64} (hf : ab_fetch ab_mt m pc = some (.inl (ab_l2d))) : ab_Run ab_mt m pc ls (.long x :: st) w = ab_Run ab_mt m (pc + 1) ls (.double (FP.l2d x) :: st) w := E_go hf rfl
theorem E_d2l {x : UInt64} (hf : ab_fetch ab_mt m pc = some (.inl (ab_d2l))) : ab_Run ab_mt m pc ls (.double x :: st) w = ab_Run ab_mt m (pc + 1) ls (.long (FP.d2l x) :: st) w := E_go hf rfl
theorem E_lcmp {x y : Int64} (hf : ab_fetch ab_mt m pc = some (.inl (ab_lcmp))) : ab_Run ab_mt m pc ls (.long y :: .long x :: st) w = ab_Run ab_mt m (pc + 1) ls (.int (lg_cmp x y) :: st) w := E_go hf rfl
theorem E_db {f : UInt64 → UInt64 → UInt64} {x y : UInt64} (hf : ab_fetch ab_mt m pc = some (.inl (ab_db f))) (h : ab_n64 (f x y) = true) : ab_Run ab_mt m pc ls (.double y :: .double x :: st) w = ab_Run ab_mt m (pc + 1) ls (.double (f x y) :: st) w := by
  refine E_go hf ?_
  unfold ab_db; simp only [if_pos h]
theorem E_dcmp {op : CmpOp} {x y : UInt64} (hf : ab_fetch ab_mt m pc = some (.inl (ab_dcmp op))) : ab_Run ab_mt m pc ls (.double y :: .double x :: st) w = ab_Run ab_mt m (pc + 1) ls (.int (Op.cmpValue (FP.dcmp x y) op) :: st) w := E_go hf rfl
theorem E_if_eq {tgt : Nat} {x : Int32} (hf : ab_fetch ab_mt m pc = some (.inl (ab_if (fun x => decide (x = 0)) tgt))) : ab_Run ab_mt m pc ls (.int x :: st) w = if x = 0 then ab_Run ab_mt m tgt ls st w else ab_Run ab_mt m (pc + 3) ls st w := by
  have h := ab_Run_act ab_mt (st := (.int x :: st)) (ls := ls) (w := w) hf rfl
  rw [h]
  dsimp only
  by_cases hc : x = 0
  · rw [if_pos hc, if_pos (decide_eq_true hc)]
  · rw [if_neg hc, if_neg (fun z => hc (of_decide_eq_true z))]
theorem E_ic_eq {tgt : Nat} {x y : Int32} (hf : ab_fetch ab_mt m pc = some (.inl (ab_ic (fun x y => decide (x = y)) tgt))) : ab_Run ab_mt m pc ls (.int y :: .int x :: st) w = if x = y then ab_Run ab_mt m tgt ls st w else ab_Run ab_mt m (pc + 3) ls st w := by
  have h := ab_Run_act ab_mt (st := (.int y :: .int x :: st)) (ls := ls) (w := w) hf rfl
  rw [h]
  dsimp only
  by_cases hc : x = y
  · rw [if_pos hc, if_pos (decide_eq_true hc)]
  · rw [if_neg hc, if_neg (fun z => hc (of_decide_eq_true z))]
theorem E_if_ne {tgt : Nat} {x : Int32} (hf : ab_fetch ab_mt m pc = some (.inl (ab_if (fun x => decide (¬ x = 0)) tgt))) : ab_Run ab_mt m pc ls (.int x :: st) w = if x = 0 then ab_Run ab_mt m (pc + 3) ls st w else ab_Run ab_mt m tgt ls st w := by
  have h := ab_Run_act ab_mt (st := (.int x :: st)) (ls := ls) (w := w) hf rfl
  rw [h]
  dsimp only
  by_cases hc : x = 0
  · rw [if_pos hc, if_neg (fun z => absurd hc (of_decide_eq_true z))]
  · rw [if_neg hc, if_pos (decide_eq_true hc)]
theorem E_ic_ne {tgt : Nat} {x y : Int32} (hf : ab_fetch ab_mt m pc = some (.inl (ab_ic (fun x y => decide (¬ x = y)) tgt))) : ab_Run ab_mt m pc ls (.int y :: .int x :: st) w = if x = y then ab_Run ab_mt m (pc + 3) ls st w else ab_Run ab_mt m tgt ls st w := by
  have h := ab_Run_act ab_mt (st := (.int y :: .int x :: st)) (ls := ls) (w := w) hf rfl
  rw [h]
  dsimp only
  by_cases hc : x = y
  · rw [if_pos hc, if_neg (fun z => absurd hc (of_decide_eq_true z))]
  · rw [if_neg hc, if_pos (decide_eq_true hc)]
theorem E_if_lt {tgt : Nat} {x : Int32} (hf : ab_fetch ab_mt m pc = some (.inl (ab_if (fun x => decide (x < 0)) tgt))) : ab_Run ab_mt m pc ls (.int x :: st) w = if x < 0 then ab_Run ab_mt m tgt ls st w else ab_Run ab_mt m (pc + 3) ls st w := by
  have h := ab_Run_act ab_mt (st := (.int x :: st)) (ls := ls) (w := w) hf rfl
  rw [h]
  dsimp only
  by_cases hc : x < 0
  · rw [if_pos hc, if_pos (decide_eq_true hc)]
  · rw [if_neg hc, if_neg (fun z => hc (of_decide_eq_true z))]
theorem E_ic_lt {tgt : Nat} {x y : Int32} (hf : ab_fetch ab_mt m pc = some (.inl (ab_ic (fun x y => decide (x < y)) tgt))) : ab_Run ab_mt m pc ls (.int y :: .int x :: st) w = if x < y then ab_Run ab_mt m tgt ls st w else ab_Run ab_mt m (pc + 3) ls st w := by
  have h := ab_Run_act ab_mt (st := (.int y :: .int x :: st)) (ls := ls) (w := w) hf rfl
  rw [h]
  dsimp only
  by_cases hc : x < y
  · rw [if_pos hc, if_pos (decide_eq_true hc)]
  · rw [if_neg hc, if_neg (fun z => hc (of_decide_eq_true z))]
theorem E_if_ge {tgt : Nat} {x : Int32} (hf : ab_fetch ab_mt m pc = some (.inl (ab_if (fun x => decide (0 ≤ x)) tgt))) : ab_Run ab_mt m pc ls (.int x :: st) w = if 0 ≤ x then ab_Run ab_mt m tgt ls st w else ab_Run ab_mt m (pc + 3) ls st w := by
  have h := ab_Run_act ab_mt (st := (.int x :: st)) (ls := ls) (w := w) hf rfl
  rw [h]
  dsimp only
  by_cases hc : 0 ≤ x
  · rw [if_pos hc, if_pos (decide_eq_true hc)]
  · rw [if_neg hc, if_neg (fun z => hc (of_decide_eq_true z))]
theorem E_ic_ge {tgt : Nat} {x y : Int32} (hf : ab_fetch ab_mt m pc = some (.inl (ab_ic (fun x y => decide (y ≤ x)) tgt))) : ab_Run ab_mt m pc ls (.int y :: .int x :: st) w = if y ≤ x then ab_Run ab_mt m tgt ls st w else ab_Run ab_mt m (pc + 3) ls st w := by
  have h := ab_Run_act ab_mt (st := (.int y :: .int x :: st)) (ls := ls) (w := w) hf rfl
  rw [h]
  dsimp only
  by_cases hc : y ≤ x
  · rw [if_pos hc, if_pos (decide_eq_true hc)]
  · rw [if_neg hc, if_neg (fun z => hc (of_decide_eq_true z))]
theorem E_if_gt {tgt : Nat} {x : Int32} (hf : ab_fetch ab_mt m pc = some (.inl (ab_if (fun x => decide (0 < x)) tgt))) : ab_Run ab_mt m pc ls (.int x :: st) w = if 0 < x then ab_Run ab_mt m tgt ls st w else ab_Run ab_mt m (pc + 3) ls st w := by
  have h := ab_Run_act ab_mt (st := (.int x :: st)) (ls := ls) (w := w) hf rfl
  rw [h]
  dsimp only
  by_cases hc : 0 < x
  · rw [if_pos hc, if_pos (decide_eq_true hc)]
  · rw [if_neg hc, if_neg (fun z => hc (of_decide_eq_true z))]
theorem E_ic_gt {tgt : Nat} {x y : Int32} (hf : ab_fetch ab_mt m pc = some (.inl (ab_ic (fun x y => decide (y < x)) tgt))) : ab_Run ab_mt m pc ls (.int y :: .int x :: st) w = if y < x then ab_Run ab_mt m tgt ls st w else ab_Run ab_mt m (pc + 3) ls st w := by
  have h := ab_Run_act ab_mt (st := (.int y :: .int x :: st)) (ls := ls) (w := w) hf rfl
  rw [h]
  dsimp only
  by_cases hc : y < x
  · rw [if_pos hc, if_pos (decide_eq_true hc)]
  · rw [if_neg hc, if_neg (fun z => hc (of_decide_eq_true z))]
theorem E_if_le {tgt : Nat} {x : Int32} (hf : ab_fetch ab_mt m pc = some (.inl (ab_if (fun x => decide (x ≤ 0)) tgt))) : ab_Run ab_mt m pc ls (.int x :: st) w = if x ≤ 0 then ab_Run ab_mt m tgt ls st w else ab_Run ab_mt m (pc + 3) ls st w := by
  have h := ab_Run_act ab_mt (st := (.int x :: st)) (ls := ls) (w := w) hf rfl
  rw [h]
  dsimp only
  by_cases hc : x ≤ 0
  · rw [if_pos hc, if_pos (decide_eq_true hc)]
  · rw [if_neg hc, if_neg (fun z => hc (of_decide_eq_true z))]
theorem E_ic_le {tgt : Nat} {x y : Int32} (hf : ab_fetch ab_mt m pc = some (.inl (ab_ic (fun x y => decide (x ≤ y)) tgt))) : ab_Run ab_mt m pc ls (.int y :: .int x :: st) w = if x ≤ y then ab_Run ab_mt m tgt ls st w else ab_Run ab_mt m (pc + 3) ls st w := by
  have h := ab_Run_act ab_mt (st := (.int y :: .int x :: st)) (ls := ls) (w := w) hf rfl
  rw [h]
  dsimp only
  by_cases hc : x ≤ y
  · rw [if_pos hc, if_pos (decide_eq_true hc)]
  · rw [if_neg hc, if_neg (fun z => hc (of_decide_eq_true z))]
theorem E_goto {tgt : Nat} (hf : ab_fetch ab_mt m pc = some (.inl (ab_goto tgt))) : ab_Run ab_mt m pc ls st w = ab_Run ab_mt m tgt ls st w := E_go hf rfl
theorem E_dup_r {x : Nat} (hf : ab_fetch ab_mt m pc = some (.inl (ab_dup))) : ab_Run ab_mt m pc ls (.ref x :: st) w = ab_Run ab_mt m (pc + 1) ls (.ref x :: .ref x :: st) w := E_go hf rfl
theorem E_dup_i {x : Int32} (hf : ab_fetch ab_mt m pc = some (.inl (ab_dup))) : ab_Run ab_mt m pc ls (.int x :: st) w = ab_Run ab_mt m (pc + 1) ls (.int x :: .int x :: st) w := E_go hf rfl
theorem E_dup2 {x : Nat} {y : Int32} (hf : ab_fetch ab_mt m pc = some (.inl (ab_dup2))) : ab_Run ab_mt m pc ls (.int y :: .ref x :: st) w = ab_Run ab_mt m (pc + 1) ls (.int y :: .ref x :: .int y :: .ref x :: st) w := E_go hf rfl
theorem E_dup2l {x : Int64} (hf : ab_fetch ab_mt m pc = some (.inl (ab_dup2))) : ab_Run ab_mt m pc ls (.long x :: st) w = ab_Run ab_mt m (pc + 1) ls (.long x :: .long x :: st) w := E_go hf rfl
theorem E_get {ci kk a : Nat} (hf : ab_fetch ab_mt m pc = some (.inl (ab_get ci kk))) (h : ab_isF ci kk (w.2 a) = true) : ab_Run ab_mt m pc ls (.ref a :: st) w = ab_Run ab_mt m (pc + 3) ls (ab_fv kk (w.2 a) :: st) w := by
  refine E_go hf ?_
  unfold ab_get
  cases e : w.2 a with
  | none => rw [e] at h; cases h
  | some x =>
    rw [e] at h
    rcases x with y | ⟨c, fs⟩
    · cases h
    · simp only [ab_isF, Bool.and_eq_true, beq_iff_eq, decide_eq_true_eq] at h
      simp only [e, h.1, if_true, List.getElem?_eq_getElem h.2, ab_fv, List.getD_eq_getElem?_getD, Option.getD_some]
theorem E_put {ci kk t a : Nat} {v : Value} (hf : ab_fetch ab_mt m pc = some (.inl (ab_put ci kk t))) (h : ab_isF ci kk (w.2 a) = true) (h2 : ab_fit t v = true) : ab_Run ab_mt m pc ls (v :: .ref a :: st) w = ab_Run ab_mt m (pc + 3) ls st (w.1, ab_up w.2 a (ab_sf kk v (w.2 a))) := by
  refine E_go hf ?_
  unfold ab_put
  cases e : w.2 a with
  | none => rw [e] at h; cases h
  | some x =>
    rw [e] at h
    rcases x with y | ⟨c, fs⟩
    · cases h
    · simp only [ab_isF, Bool.and_eq_true, beq_iff_eq, decide_eq_true_eq] at h
      simp only [e, h.1, h.2, h2, and_self, if_true, ab_sf]
theorem E_iald {a : Nat} {i : Int32} (hf : ab_fetch ab_mt m pc = some (.inl (ab_iald))) (h : ab_inI i (w.2 a) = true) : ab_Run ab_mt m pc ls (.int i :: .ref a :: st) w = ab_Run ab_mt m (pc + 1) ls (.int (ab_aI i.toNatClampNeg (w.2 a)) :: st) w := by
  refine E_go hf ?_
  unfold ab_iald
  cases e : w.2 a with
  | none => rw [e] at h; cases h
  | some x =>
    rw [e] at h
    rcases x with ⟨n, f | f | f | f | f⟩ | ⟨c, fs⟩ <;> first | (cases h; done) | (simp only [ab_inI, ab_inb, decide_eq_true_eq] at h; simp only [e, if_neg h, ab_aI])
theorem E_lald {a : Nat} {i : Int32} (hf : ab_fetch ab_mt m pc = some (.inl (ab_lald))) (h : ab_inL i (w.2 a) = true) : ab_Run ab_mt m pc ls (.int i :: .ref a :: st) w = ab_Run ab_mt m (pc + 1) ls (.long (ab_aL i.toNatClampNeg (w.2 a)) :: st) w := by
  refine E_go hf ?_
  unfold ab_lald
  cases e : w.2 a with
  | none => rw [e] at h; cases h
  | some x =>
    rw [e] at h
    rcases x with ⟨n, f | f | f | f | f⟩ | ⟨c, fs⟩ <;> first | (cases h; done) | (simp only [ab_inL, ab_inb, decide_eq_true_eq] at h; simp only [e, if_neg h, ab_aL])
theorem E_aald {a : Nat} {i : Int32} (hf : ab_fetch ab_mt m pc = some (.inl (ab_aald))) (h : ab_inQ i (w.2 a) = true) : ab_Run ab_mt m pc ls (.int i :: .ref a :: st) w = ab_Run ab_mt m (pc + 1) ls (.ref (ab_aQ i.toNatClampNeg (w.2 a)) :: st) w := by
  refine E_go hf ?_
  unfold ab_aald
  cases e : w.2 a with
  | none => rw [e] at h; cases h
  | some x =>
    rw [e] at h
    rcases x with ⟨n, f | f | f | f | f⟩ | ⟨c, fs⟩ <;> first | (cases h; done) | skip
    simp only [ab_inQ, ab_inb, Bool.and_eq_true, decide_eq_true_eq] at h
    obtain ⟨h1, h2⟩ := h
    cases e2 : f i.toNatClampNeg with
    | none => rw [e2] at h2; cases h2
    | some q => simp only [e, if_neg h1, e2, ab_aQ, Option.getD_some]
theorem E_iast {a : Nat} {i x : Int32} (hf : ab_fetch ab_mt m pc = some (.inl (ab_iast))) (h : ab_inW i (w.2 a) = true) : ab_Run ab_mt m pc ls (.int x :: .int i :: .ref a :: st) w = ab_Run ab_mt m (pc + 1) ls st (w.1, ab_up w.2 a (ab_sI i.toNatClampNeg x (w.2 a))) := by
  refine E_go hf ?_
  unfold ab_iast
  cases e : w.2 a with
  | none => rw [e] at h; cases h
  | some y =>
    rw [e] at h
    rcases y with ⟨n, f | f | f | f | f⟩ | ⟨c, fs⟩ <;> first | (cases h; done) | (simp only [ab_inW, ab_inb, decide_eq_true_eq] at h; simp only [e, if_neg h, ab_sI])
theorem E_last {a : Nat} {i : Int32} {x : Int64} (hf : ab_fetch ab_mt m pc = some (.inl (ab_last))) (h : ab_inL i (w.2 a) = true) : ab_Run ab_mt m pc ls (.long x :: .int i :: .ref a :: st) w = ab_Run ab_mt m (pc + 1) ls st (w.1, ab_up w.2 a (ab_sL i.toNatClampNeg x (w.2 a))) := by
  refine E_go hf ?_
  unfold ab_last
  cases e : w.2 a with
  | none => rw [e] at h; cases h
  | some y =>
    rw [e] at h
    rcases y with ⟨n, f | f | f | f | f⟩ | ⟨c, fs⟩ <;> first | (cases h; done) | (simp only [ab_inL, ab_inb, decide_eq_true_eq] at h; simp only [e, if_neg h, ab_sL])
theorem E_aast {ci a x : Nat} {i : Int32} (hf : ab_fetch ab_mt m pc = some (.inl (ab_aast ci))) (h : ab_inP i (w.2 a) = true) (h2 : ab_isO ci (w.2 x) = true) : ab_Run ab_mt m pc ls (.ref x :: .int i :: .ref a :: st) w = ab_Run ab_mt m (pc + 1) ls st (w.1, ab_up w.2 a (ab_sQ i.toNatClampNeg x (w.2 a))) := by
  refine E_go hf ?_
  unfold ab_aast
  cases e : w.2 a with
  | none => rw [e] at h; cases h
  | some y =>
    rw [e] at h
    rcases y with ⟨n, f | f | f | f | f⟩ | ⟨c, fs⟩ <;> first | (cases h; done) | skip
    cases e3 : w.2 x with
    | none => rw [e3] at h2; cases h2
    | some z =>
      rw [e3] at h2
      rcases z with z | ⟨c, fs⟩
      · cases h2
      · simp only [ab_inP, ab_inb, decide_eq_true_eq] at h
        simp only [ab_isO, beq_iff_eq] at h2
        simp only [e, e3, if_neg h, h2, if_true, ab_sQ]
theorem E_alen {a : Nat} (hf : ab_fetch ab_mt m pc = some (.inl (ab_alen))) (h : ab_isA (w.2 a) = true) : ab_Run ab_mt m pc ls (.ref a :: st) w = ab_Run ab_mt m (pc + 1) ls (.int (nI (ab_ln (w.2 a))) :: st) w := by
  refine E_go hf ?_
  unfold ab_alen
  cases e : w.2 a with
  | none => rw [e] at h; cases h
  | some y =>
    rw [e] at h
    rcases y with ⟨n, f | f | f | f | f⟩ | ⟨c, fs⟩ <;> first | (cases h; done) | (simp only [e, ab_ln]; rfl)
theorem E_copy {a b : Nat} {n dp sp : Int32} (hf : ab_fetch ab_mt m pc = some (.inl (ab_copy))) (h : ab_inC sp dp n (w.2 b) (w.2 a) = true) (h8 : ab_w8 st = true) : ab_Run ab_mt m pc ls (.int n :: .int dp :: .ref a :: .int sp :: .ref b :: st) w = ab_Run ab_mt m (pc + 3) ls st (w.1, ab_up w.2 a (ab_sC sp.toNatClampNeg dp.toNatClampNeg n.toNatClampNeg (w.2 b) (w.2 a))) := by
  refine E_go hf ?_
  unfold ab_copy
  have h8 := of_decide_eq_true h8
  cases e : w.2 b with
  | none => rw [e] at h; cases h
  | some y =>
    rw [e] at h
    cases e2 : w.2 a with
    | none => rw [e2] at h; rcases y with ⟨n, f | f | f | f | f⟩ | ⟨c, fs⟩ <;> cases h
    | some z =>
      rw [e2] at h
      rcases y with ⟨n0, f | f | f | f | f⟩ | ⟨c, fs⟩ <;> first | (cases h; done) | skip
      rcases z with ⟨n1, g | g | g | g | g⟩ | ⟨c, fs⟩ <;> first | (cases h; done) | skip
      simp only [ab_inC, Bool.and_eq_true, decide_eq_true_eq] at h
      obtain ⟨⟨⟨⟨h1, h2⟩, h3⟩, h4⟩, h5⟩ := h
      have hn : ¬ ((sp < 0 ∨ dp < 0 ∨ n < 0) ∨ ¬ (st.map fun v => v.category).sum ≤ 8) := fun z => z.elim (fun z => z.elim h1 (fun z => z.elim h2 h3)) (fun z => z h8)
      simp only [e, e2, if_neg hn, if_pos (And.intro h4 h5), ab_sC]
theorem E_maxi {x y : Int32} (hf : ab_fetch ab_mt m pc = some (.inl (ab_maxi))) (h8 : ab_w8 st = true) : ab_Run ab_mt m pc ls (.int y :: .int x :: st) w = ab_Run ab_mt m (pc + 3) ls (.int (if x < y then y else x) :: st) w := by
  refine E_go hf ?_
  unfold ab_maxi; simp only [if_pos (of_decide_eq_true h8)]
theorem E_mini {x y : Int32} (hf : ab_fetch ab_mt m pc = some (.inl (ab_mini))) (h8 : ab_w8 st = true) : ab_Run ab_mt m pc ls (.int y :: .int x :: st) w = ab_Run ab_mt m (pc + 3) ls (.int (if y < x then y else x) :: st) w := by
  refine E_go hf ?_
  unfold ab_mini; simp only [if_pos (of_decide_eq_true h8)]
theorem E_maxl {x y : Int64} (hf : ab_fetch ab_mt m pc = some (.inl (ab_maxl))) (h8 : ab_w8 st = true) : ab_Run ab_mt m pc ls (.long y :: .long x :: st) w = ab_Run ab_mt m (pc + 3) ls (.long (if y < x then x else y) :: st) w := by
  refine E_go hf ?_
  unfold ab_maxl; simp only [if_pos (of_decide_eq_true h8)]
theorem E_minl {x y : Int64} (hf : ab_fetch ab_mt m pc = some (.inl (ab_minl))) (h8 : ab_w8 st = true) : ab_Run ab_mt m pc ls (.long y :: .long x :: st) w = ab_Run ab_mt m (pc + 3) ls (.long (if y < x then y else x) :: st) w := by
  refine E_go hf ?_
  unfold ab_minl; simp only [if_pos (of_decide_eq_true h8)]
theorem E_oini {a : Nat} (hf : ab_fetch ab_mt m pc = some (.inl (ab_oini))) (h8 : ab_w8 st = true) : ab_Run ab_mt m pc ls (.ref a :: st) w = ab_Run ab_mt m (pc + 3) ls st w := by
  refine E_go hf ?_
  unfold ab_oini; simp only [if_pos (of_decide_eq_true h8)]
theorem E_bits {x : UInt64} (hf : ab_fetch ab_mt m pc = some (.inl (ab_bits))) (h8 : ab_w8 st = true) : ab_Run ab_mt m pc ls (.double x :: st) w = ab_Run ab_mt m (pc + 3) ls (.long x.toInt64 :: st) w := by
  refine E_go hf ?_
  unfold ab_bits; simp only [if_pos (of_decide_eq_true h8)]
theorem E_swi {lo hi : Int} {d : Nat} {tg : List Nat} {x : Int32} (hf : ab_fetch ab_mt m pc = some (.inl (ab_swi lo hi d tg))) (hl : (hi - lo).toNat < tg.length) : ab_Run ab_mt m pc ls (.int x :: st) w = if x.toInt < lo ∨ hi < x.toInt then ab_Run ab_mt m d ls st w else ab_Run ab_mt m (tg.getD (x.toInt - lo).toNat 0) ls st w := by
  by_cases hc : x.toInt < lo ∨ hi < x.toInt
  · rw [if_pos hc]
    exact ab_Run_act ab_mt (r := (d, ls, st, w.2)) hf (by unfold ab_swi; simp only [if_pos hc])
  · rw [if_neg hc]
    have h1 : (x.toInt - lo).toNat < tg.length := by omega
    exact ab_Run_act ab_mt (r := (tg.getD (x.toInt - lo).toNat 0, ls, st, w.2)) hf (by unfold ab_swi; simp only [if_neg hc, List.getElem?_eq_getElem h1, List.getD_eq_getElem?_getD, Option.getD_some])
theorem E_callg {y n : Nat} {as : List Value} {st0 : List Value} (hf : ab_fetch ab_mt m pc = some (.inr (.inr (n + 3, y)))) (hn : as.length = n) (hst : st0 = as.reverse ++ st) (h1 : ab_recv ab_mt y as w.2 = true) (h8 : ab_w8 st = true) : ab_Run ab_mt m pc ls st0 w = ab_aft y m pc ls st (ab_Cl y as w) := by
  subst hst
  subst hn
  have e1 : (as.reverse ++ st).take as.length = as.reverse := by rw [← List.length_reverse, List.take_left]
  have e2 : (as.reverse ++ st).drop as.length = st := by rw [← List.length_reverse, List.drop_left]
  have hn : as.length ≤ (as.reverse ++ st).length ∧ (((as.reverse ++ st).drop as.length).map fun v => v.category).sum ≤ 8 ∧ ab_recv ab_mt y ((as.reverse ++ st).take as.length).reverse w.2 = true := by
    rw [e1, e2, List.reverse_reverse]
    exact ⟨by rw [List.length_append, List.length_reverse]; omega, of_decide_eq_true h8, h1⟩
  cases e : ab_Cl y as w with
  | some r =>
    obtain ⟨o, w'⟩ := r
    have hc : ab_Run ab_mt y 0 (ab_ent 0 ((as.reverse ++ st).take as.length).reverse) [] w = some (o, w') := by rw [e1, List.reverse_reverse]; exact e
    cases o with
    | inl v =>
      rw [ab_Run_call ab_mt hf hn hc, e2]
      rfl
    | inr E =>
      show _ = if ab_thr ab_mt y = true then _ else _
      by_cases ht : ab_thr ab_mt y = true
      · rw [if_pos ht]
        cases hh : ab_hand ab_mt m pc E with
        | some h => exact ab_Run_callh ab_mt hf hn hc ht hh
        | none =>
          show _ = if ab_thr ab_mt m = true then _ else _
          by_cases ht2 : ab_thr ab_mt m = true
          · rw [if_pos ht2]
            exact ab_Run_callx ab_mt hf hn hc ht ht2 hh
          · rw [if_neg ht2]
            cases e9 : ab_Run ab_mt m pc ls (as.reverse ++ st) w with
            | none => rfl
            | some r =>
              obtain ⟨k, hk⟩ := ab_Run_ex ab_mt e9
              cases k with
              | zero => cases hk
              | succ k =>
                obtain ⟨k0, hk0⟩ := ab_Run_ex ab_mt hc
                rw [ab_run, hf] at hk
                simp only [if_pos hn] at hk
                split at hk
                · cases hk
                · rename_i hr
                  cases ab_run_det ab_mt hr hk0
                · rename_i hr
                  cases ab_run_det ab_mt hr hk0
                  rw [if_pos ht, hh] at hk
                  simp only [if_neg ht2] at hk
                  cases hk
      · rw [if_neg ht]
        cases e9 : ab_Run ab_mt m pc ls (as.reverse ++ st) w with
        | none => rfl
        | some r =>
          obtain ⟨k, hk⟩ := ab_Run_ex ab_mt e9
          cases k with
          | zero => cases hk
          | succ k =>
            obtain ⟨k0, hk0⟩ := ab_Run_ex ab_mt hc
            rw [ab_run, hf] at hk
            simp only [if_pos hn] at hk
            split at hk
            · cases hk
            · rename_i hr
              cases ab_run_det ab_mt hr hk0
            · rename_i hr
              cases ab_run_det ab_mt hr hk0
              rw [if_neg ht] at hk
              cases hk
  | none =>
    show _ = none
    cases e9 : ab_Run ab_mt m pc ls (as.reverse ++ st) w with
    | none => rfl
    | some r =>
      obtain ⟨k, hk⟩ := ab_Run_ex ab_mt e9
      cases k with
      | zero => cases hk
      | succ k =>
        rw [ab_run, hf] at hk
        simp only [if_pos hn] at hk
        split at hk
        · cases hk
        · rename_i hr
          have h9 := ab_Run_of ab_mt hr
          rw [e1, List.reverse_reverse] at h9
          rw [show ab_Run ab_mt y 0 (ab_ent 0 as) [] w = none from e] at h9
          cases h9
        · rename_i hr
          have h9 := ab_Run_of ab_mt hr
          rw [e1, List.reverse_reverse] at h9
          rw [show ab_Run ab_mt y 0 (ab_ent 0 as) [] w = none from e] at h9
          cases h9
theorem E_call0 {y : Nat} (hf : ab_fetch ab_mt m pc = some (.inr (.inr (0 + 3, y)))) (h1 : ab_recv ab_mt y [] w.2 = true) (h8 : ab_w8 st = true) : ab_Run ab_mt m pc ls (st) w = ab_aft y m pc ls st (ab_Cl y [] w) := E_callg (n := 0) (as := []) hf rfl rfl h1 h8
theorem E_call1 {y : Nat} {v0 : Value} (hf : ab_fetch ab_mt m pc = some (.inr (.inr (1 + 3, y)))) (h1 : ab_recv ab_mt y [v0] w.2 = true) (h8 : ab_w8 st = true) : ab_Run ab_mt m pc ls (v0 :: st) w = ab_aft y m pc ls st (ab_Cl y [v0] w) := E_callg (n := 1) (as := [v0]) hf rfl rfl h1 h8
theorem E_call2 {y : Nat} {v0 v1 : Value} (hf : ab_fetch ab_mt m pc = some (.inr (.inr (2 + 3, y)))) (h1 : ab_recv ab_mt y [v0, v1] w.2 = true) (h8 : ab_w8 st = true) : ab_Run ab_mt m pc ls (v1 :: v0 :: st) w = ab_aft y m pc ls st (ab_Cl y [v0, v1] w) := E_callg (n := 2) (as := [v0, v1]) hf rfl rfl h1 h8
theorem E_call3 {y : Nat} {v0 v1 v2 : Value} (hf : ab_fetch ab_mt m pc = some (.inr (.inr (3 + 3, y)))) (h1 : ab_recv ab_mt y [v0, v1, v2] w.2 = true) (h8 : ab_w8 st = true) : ab_Run ab_mt m pc ls (v2 :: v1 :: v0 :: st) w = ab_aft y m pc ls st (ab_Cl y [v0, v1, v2] w) := E_callg (n := 3) (as := [v0, v1, v2]) hf rfl rfl h1 h8
theorem E_call4 {y : Nat} {v0 v1 v2 v3 : Value} (hf : ab_fetch ab_mt m pc = some (.inr (.inr (4 + 3, y)))) (h1 : ab_recv ab_mt y [v0, v1, v2, v3] w.2 = true) (h8 : ab_w8 st = true) : ab_Run ab_mt m pc ls (v3 :: v2 :: v1 :: v0 :: st) w = ab_aft y m pc ls st (ab_Cl y [v0, v1, v2, v3] w) := E_callg (n := 4) (as := [v0, v1, v2, v3]) hf rfl rfl h1 h8
theorem E_call5 {y : Nat} {v0 v1 v2 v3 v4 : Value} (hf : ab_fetch ab_mt m pc = some (.inr (.inr (5 + 3, y)))) (h1 : ab_recv ab_mt y [v0, v1, v2, v3, v4] w.2 = true) (h8 : ab_w8 st = true) : ab_Run ab_mt m pc ls (v4 :: v3 :: v2 :: v1 :: v0 :: st) w = ab_aft y m pc ls st (ab_Cl y [v0, v1, v2, v3, v4] w) := E_callg (n := 5) (as := [v0, v1, v2, v3, v4]) hf rfl rfl h1 h8
theorem E_call6 {y : Nat} {v0 v1 v2 v3 v4 v5 : Value} (hf : ab_fetch ab_mt m pc = some (.inr (.inr (6 + 3, y)))) (h1 : ab_recv ab_mt y [v0, v1, v2, v3, v4, v5] w.2 = true) (h8 : ab_w8 st = true) : ab_Run ab_mt m pc ls (v5 :: v4 :: v3 :: v2 :: v1 :: v0 :: st) w = ab_aft y m pc ls st (ab_Cl y [v0, v1, v2, v3, v4, v5] w) := E_callg (n := 6) (as := [v0, v1, v2, v3, v4, v5]) hf rfl rfl h1 h8
theorem E_call7 {y : Nat} {v0 v1 v2 v3 v4 v5 v6 : Value} (hf : ab_fetch ab_mt m pc = some (.inr (.inr (7 + 3, y)))) (h1 : ab_recv ab_mt y [v0, v1, v2, v3, v4, v5, v6] w.2 = true) (h8 : ab_w8 st = true) : ab_Run ab_mt m pc ls (v6 :: v5 :: v4 :: v3 :: v2 :: v1 :: v0 :: st) w = ab_aft y m pc ls st (ab_Cl y [v0, v1, v2, v3, v4, v5, v6] w) := E_callg (n := 7) (as := [v0, v1, v2, v3, v4, v5, v6]) hf rfl rfl h1 h8
theorem E_new {n : Nat} {x : ab_C} {sz : Nat} {al : ab_N} {rest : List Value} (hf : ab_fetch ab_mt m pc = some (.inr (.inl (al, n)))) (ha : al st = some (x, sz, rest)) (hg : w.1.1 = true) : ab_Run ab_mt m pc ls st w = ab_Run ab_mt m (pc + n) ls (.ref w.1.2.1 :: rest) (ab_mk w.1 w.2 x sz) := ab_Run_new ab_mt hf ha hg
theorem E_ret0 {t : Nat} (hf : ab_fetch ab_mt m pc = some (.inr (.inr (0, t)))) : ab_Run ab_mt m pc ls [] w = some (.inl none, w) := ab_Run_ret0 ab_mt hf
theorem E_reti (hf : ab_fetch ab_mt m pc = some (.inr (.inr (1, 0)))) {x : Int32} : ab_Run ab_mt m pc ls [.int x] w = some (.inl (some (.int x)), w) := ab_Run_ret1 ab_mt hf rfl
theorem E_retl (hf : ab_fetch ab_mt m pc = some (.inr (.inr (1, 1)))) {x : Int64} : ab_Run ab_mt m pc ls [.long x] w = some (.inl (some (.long x)), w) := ab_Run_ret1 ab_mt hf rfl
theorem E_retd (hf : ab_fetch ab_mt m pc = some (.inr (.inr (1, 4)))) {x : UInt64} : ab_Run ab_mt m pc ls [.double x] w = some (.inl (some (.double x)), w) := ab_Run_ret1 ab_mt hf rfl
theorem E_retz (hf : ab_fetch ab_mt m pc = some (.inr (.inr (1, 2)))) {x : Int32} (h : ab_fitr 2 (.int x) = true) : ab_Run ab_mt m pc ls [.int x] w = some (.inl (some (.int x)), w) := ab_Run_ret1 ab_mt hf h
theorem E_thr {E : Nat} (hf : ab_fetch ab_mt m pc = some (.inr (.inr (2, E)))) : ab_Run ab_mt m pc ls [] w = some (.inr E, (ab_th w.1, w.2)) := ab_Run_thr ab_mt hf
end AbStep
