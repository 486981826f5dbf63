/-! ===== the abstract machine: cells by their numbers, no addresses ===== -/
abbrev ab_C : Type := vp_A ⊕ (Nat × List Value)
abbrev ab_G : Type := Bool × Nat × Nat × Nat
abbrev ab_S : Type := Nat → Option ab_C
abbrev ab_W : Type := ab_G × ab_S
abbrev ab_L : Type := Nat → Option Value
abbrev ab_P : Type := Nat × ab_L × List Value × ab_S
abbrev ab_T : Type := Nat → ab_L → List Value → ab_S → Option ab_P
abbrev ab_N : Type := List Value → Option (ab_C × Nat × List Value)
abbrev ab_R : Type := (Option Value ⊕ Nat) × ab_W
/-- an entry of a method's code: a plain action; a making (and its length); a return, a throw or a call -/
abbrev ab_E : Type := ab_T ⊕ (ab_N × Nat) ⊕ (Nat × Nat)
/-- cells -/
abbrev ab_ia (n : Nat) (f : Nat → Int32) : ab_C := .inl (n, .inl f)
abbrev ab_la (n : Nat) (f : Nat → Int64) : ab_C := .inl (n, .inr (.inl f))
/-- an int array that is read alone -/
abbrev ab_ra (n : Nat) (f : Nat → UInt32) : ab_C := .inl (n, .inr (.inr (.inl f)))
abbrev ab_qa (n : Nat) (f : Nat → Option Nat) : ab_C := .inl (n, .inr (.inr (.inr (.inr f))))
abbrev ab_ob (c : Nat) (fs : List Value) : ab_C := .inr (c, fs)
def ab_up {α : Type} (f : Nat → α) (k : Nat) (x : α) : Nat → α := fun j => if j = k then x else f j
/-- locals: one word, two words -/
def ab_l1 (ls : ab_L) (i : Nat) (v : Value) : ab_L := fun j => if j = i then some v else ls j
def ab_l2 (ls : ab_L) (i : Nat) (v : Value) : ab_L := fun j => if j = i then some v else if j = i + 1 then none else ls j
/-! the actions -/
def ab_push (v : Value) (n : Nat) : ab_T := fun pc ls st σ => some (pc + n, ls, v :: st, σ)
def ab_loadi (i n : Nat) : ab_T := fun pc ls st σ => match ls i with
  | some (.int x) => some (pc + n, ls, .int x :: st, σ)
  | _ => none
def ab_loadr (i n : Nat) : ab_T := fun pc ls st σ => match ls i with
  | some (.ref x) => some (pc + n, ls, .ref x :: st, σ)
  | _ => none
def ab_loadl (i n : Nat) : ab_T := fun pc ls st σ => match ls i, ls (i + 1) with
  | some (.long x), none => some (pc + n, ls, .long x :: st, σ)
  | _, _ => none
def ab_loadd (i n : Nat) : ab_T := fun pc ls st σ => match ls i, ls (i + 1) with
  | some (.double x), none => some (pc + n, ls, .double x :: st, σ)
  | _, _ => none
def ab_stori (i n : Nat) : ab_T := fun pc ls st σ => match st with
  | .int x :: r => some (pc + n, ab_l1 ls i (.int x), r, σ)
  | _ => none
def ab_storr (i n : Nat) : ab_T := fun pc ls st σ => match st with
  | .ref x :: r => some (pc + n, ab_l1 ls i (.ref x), r, σ)
  | _ => none
def ab_storl (i n : Nat) : ab_T := fun pc ls st σ => match st with
  | .long x :: r => some (pc + n, ab_l2 ls i (.long x), r, σ)
  | _ => none
def ab_stord (i n : Nat) : ab_T := fun pc ls st σ => match st with
  | .double x :: r => some (pc + n, ab_l2 ls i (.double x), r, σ)
  | _ => none
def ab_iinc (i : Nat) (k : Int32) : ab_T := fun pc ls st σ => match ls i with
  | some (.int x) => some (pc + 3, ab_l1 ls i (.int (x + k)), st, σ)
  | _ => none
def ab_ib (f : Int32 → Int32 → Int32) : ab_T := fun pc ls st σ => match st with
  | .int y :: .int x :: r => some (pc + 1, ls, .int (f x y) :: r, σ)
  | _ => none
/-- division: not by 0 -/
def ab_idv (f : Int32 → Int32 → Int32) : ab_T := fun pc ls st σ => match st with
  | .int y :: .int x :: r => if y = 0 then none else some (pc + 1, ls, .int (f x y) :: r, σ)
  | _ => none
def ab_lb (f : Int64 → Int64 → Int64) : ab_T := fun pc ls st σ => match st with
  | .long y :: .long x :: r => some (pc + 1, ls, .long (f x y) :: r, σ)
  | _ => none
def ab_ldv (f : Int64 → Int64 → Int64) : ab_T := fun pc ls st σ => match st with
  | .long y :: .long x :: r => if y = 0 then none else some (pc + 1, ls, .long (f x y) :: r, σ)
  | _ => none
def ab_lsh : ab_T := fun pc ls st σ => match st with
  | .int y :: .long x :: r => some (pc + 1, ls, .long (x <<< (y.toInt64 &&& 63)) :: r, σ)
  | _ => none
def ab_i2l : ab_T := fun pc ls st σ => match st with
  | .int x :: r => some (pc + 1, ls, .long x.toInt64 :: r, σ)
  | _ => none
def ab_l2i : ab_T := fun pc ls st σ => match st with
  | .long x :: r => some (pc + 1, ls, .int x.toInt32 :: r, σ)
  | _ => none
def ab_lng : ab_T := fun pc ls st σ => match st with
  | .long x :: r => some (pc + 1, ls, .long (-x) :: r, σ)
  | _ => none
def ab_i2d : ab_T := fun pc ls st σ => match st with
  | .int x :: r => some (pc + 1, ls, .double (FP.i2d x) :: r, σ)
  | _ => none
def ab_l2d : ab_T := fun pc ls st σ => match st with
  | .long x :: r => some (pc + 1, ls, .double (FP.l2d x) :: r, σ)
  | _ => none
def ab_d2l : ab_T := fun pc ls st σ => match st with
  | .double x :: r => some (pc + 1, ls, .long (FP.d2l x) :: r, σ)
  | _ => none
def ab_lcmp : ab_T := fun pc ls st σ => match st with
  | .long y :: .long x :: r => some (pc + 1, ls, .int (lg_cmp x y) :: r, σ)
  | _ => none
/-- a double's number, not a NaN -/
def ab_n64 (r : UInt64) : Bool := decide (r &&& 0x7fffffffffffffff ≤ 0x7ff0000000000000)
def ab_db (f : UInt64 → UInt64 → UInt64) : ab_T := fun pc ls st σ => match st with
  | .double y :: .double x :: r => if ab_n64 (f x y) = true then some (pc + 1, ls, .double (f x y) :: r, σ) else none
  | _ => none
def ab_dcmp (op : CmpOp) : ab_T := fun pc ls st σ => match st with
  | .double y :: .double x :: r => some (pc + 1, ls, .int (Op.cmpValue (FP.dcmp x y) op) :: r, σ)
  | _ => none
def ab_if (c : Int32 → Bool) (tgt : Nat) : ab_T := fun pc ls st σ => match st with
  | .int x :: r => some (if c x = true then tgt else pc + 3, ls, r, σ)
  | _ => none
def ab_ic (c : Int32 → Int32 → Bool) (tgt : Nat) : ab_T := fun pc ls st σ => match st with
  | .int y :: .int x :: r => some (if c x y = true then tgt else pc + 3, ls, r, σ)
  | _ => none
def ab_goto (tgt : Nat) : ab_T := fun _ ls st σ => some (tgt, ls, st, σ)
def ab_dup : ab_T := fun pc ls st σ => match st with
  | .ref x :: r => some (pc + 1, ls, .ref x :: .ref x :: r, σ)
  | .int x :: r => some (pc + 1, ls, .int x :: .int x :: r, σ)
  | _ => none
def ab_dup2 : ab_T := fun pc ls st σ => match st with
  | .int y :: .ref x :: r => some (pc + 1, ls, .int y :: .ref x :: .int y :: .ref x :: r, σ)
  | .long x :: r => some (pc + 1, ls, .long x :: .long x :: r, σ)
  | _ => none
def ab_ing : ab_T := fun pc ls st σ => match st with
  | .int x :: r => some (pc + 1, ls, .int (-x) :: r, σ)
  | _ => none
def ab_dx2 : ab_T := fun pc ls st σ => match st with
  | .int x :: .int y :: .ref z :: r => some (pc + 1, ls, .int x :: .int y :: .ref z :: .int x :: r, σ)
  | _ => none
def ab_pop : ab_T := fun pc ls st σ => match st with
  | .int _ :: r => some (pc + 1, ls, r, σ)
  | _ => none
def ab_get (ci k : Nat) : ab_T := fun pc ls st σ => match st with
  | .ref a :: r => match σ a with
    | some (.inr (c, fs)) => if c = ci then match fs[k]? with
      | some v => some (pc + 3, ls, v :: r, σ)
      | none => none
      else none
    | _ => none
  | _ => none
/-- a field's store: t says of which kind of value: 0 int, 1 long, 2 boolean, 3 reference -/
def ab_fit (t : Nat) : Value → Bool
  | .int x => t == 0 || (t == 2 && (x == 0 || x == 1))
  | .long _ => t == 1
  | .ref _ => t == 3
  | _ => false
def ab_put (ci k t : Nat) : ab_T := fun pc ls st σ => match st with
  | v :: .ref a :: r => match σ a with
    | some (.inr (c, fs)) => if c = ci ∧ k < fs.length ∧ ab_fit t v = true then some (pc + 3, ls, r, ab_up σ a (some (.inr (c, fs.set k v)))) else none
    | _ => none
  | _ => none
def ab_iald : ab_T := fun pc ls st σ => match st with
  | .int i :: .ref a :: r => match σ a with
    | some (.inl (n, .inl f)) => if i < 0 ∨ n ≤ i.toNatClampNeg then none else some (pc + 1, ls, .int (f i.toNatClampNeg) :: r, σ)
    | some (.inl (n, .inr (.inr (.inl f)))) => if i < 0 ∨ n ≤ i.toNatClampNeg then none else some (pc + 1, ls, .int (f i.toNatClampNeg).toInt32 :: r, σ)
    | _ => none
  | _ => none
def ab_lald : ab_T := fun pc ls st σ => match st with
  | .int i :: .ref a :: r => match σ a with
    | some (.inl (n, .inr (.inl f))) => if i < 0 ∨ n ≤ i.toNatClampNeg then none else some (pc + 1, ls, .long (f i.toNatClampNeg) :: r, σ)
    | _ => none
  | _ => none
def ab_aald : ab_T := fun pc ls st σ => match st with
  | .int i :: .ref a :: r => match σ a with
    | some (.inl (n, .inr (.inr (.inr (.inr f))))) => if i < 0 ∨ n ≤ i.toNatClampNeg then none else match f i.toNatClampNeg with
      | some q => some (pc + 1, ls, .ref q :: r, σ)
      | none => none
    | _ => none
  | _ => none
def ab_iast : ab_T := fun pc ls st σ => match st with
  | .int x :: .int i :: .ref a :: r => match σ a with
    | some (.inl (n, .inl f)) => if i < 0 ∨ n ≤ i.toNatClampNeg then none else some (pc + 1, ls, r, ab_up σ a (some (.inl (n, .inl (ab_up f i.toNatClampNeg x)))))
    | _ => none
  | _ => none
def ab_last : ab_T := fun pc ls st σ => match st with
  | .long x :: .int i :: .ref a :: r => match σ a with
    | some (.inl (n, .inr (.inl f))) => if i < 0 ∨ n ≤ i.toNatClampNeg then none else some (pc + 1, ls, r, ab_up σ a (some (.inl (n, .inr (.inl (ab_up f i.toNatClampNeg x))))))
    | _ => none
  | _ => none
/-- an object of class ci into an array of such -/
def ab_aast (ci : Nat) : ab_T := fun pc ls st σ => match st with
  | .ref x :: .int i :: .ref a :: r => match σ a, σ x with
    | some (.inl (n, .inr (.inr (.inr (.inr f))))), some (.inr (c, _)) => if i < 0 ∨ n ≤ i.toNatClampNeg then none else if c = ci then some (pc + 1, ls, r, ab_up σ a (some (.inl (n, .inr (.inr (.inr (.inr (ab_up f i.toNatClampNeg (some x)))))))))
      else none
    | _, _ => none
  | _ => none
def ab_alen : ab_T := fun pc ls st σ => match st with
  | .ref a :: r => match σ a with
    | some (.inl (n, .inl _)) => some (pc + 1, ls, .int (Int32.ofNat n) :: r, σ)
    | some (.inl (n, .inr (.inr (.inl _)))) => some (pc + 1, ls, .int (Int32.ofNat n) :: r, σ)
    | some (.inl (n, .inr (.inr (.inr (.inr _))))) => some (pc + 1, ls, .int (Int32.ofNat n) :: r, σ)
    | _ => none
  | _ => none
def ab_cpy (f g : Nat → Int32) (sp dp n : Nat) : Nat → Int32 := va_cpy f g sp dp n
/-- System.arraycopy of ints -/
def ab_copy : ab_T := fun pc ls st σ => match st with
  | .int n :: .int dp :: .ref a :: .int sp :: .ref b :: r => match σ b, σ a with
    | some (.inl (n0, .inl f)), some (.inl (n1, .inl g)) => if (sp < 0 ∨ dp < 0 ∨ n < 0) ∨ ¬ ((r.map fun v => v.category).sum ≤ 8) then none else if sp.toNatClampNeg + n.toNatClampNeg ≤ n0 ∧ dp.toNatClampNeg + n.toNatClampNeg ≤ n1 then
        some (pc + 3, ls, r, ab_up σ a (some (.inl (n1, .inl (ab_cpy f g sp.toNatClampNeg dp.toNatClampNeg n.toNatClampNeg))))) else none
    | _, _ => none
  | _ => none
def ab_maxi : ab_T := fun pc ls st σ => match st with
  | .int y :: .int x :: r => if (r.map fun v => v.category).sum ≤ 8 then some (pc + 3, ls, .int (if x < y then y else x) :: r, σ) else none
  | _ => none
def ab_mini : ab_T := fun pc ls st σ => match st with
  | .int y :: .int x :: r => if (r.map fun v => v.category).sum ≤ 8 then some (pc + 3, ls, .int (if y < x then y else x) :: r, σ) else none
  | _ => none
def ab_maxl : ab_T := fun pc ls st σ => match st with
  | .long y :: .long x :: r => if (r.map fun v => v.category).sum ≤ 8 then some (pc + 3, ls, .long (if y < x then x else y) :: r, σ) else none
  | _ => none
def ab_minl : ab_T := fun pc ls st σ => match st with
  | .long y :: .long x :: r => if (r.map fun v => v.category).sum ≤ 8 then some (pc + 3, ls, .long (if y < x then y else x) :: r, σ) else none
  | _ => none
/-- Object() -/
def ab_oini : ab_T := fun pc ls st σ => match st with
  | .ref _ :: r => if (r.map fun v => v.category).sum ≤ 8 then some (pc + 3, ls, r, σ) else none
  | _ => none
def ab_swi (lo hi : Int) (dflt : Nat) (tg : List Nat) : ab_T := fun _ ls st σ => match st with
  | .int x :: r => if x.toInt < lo ∨ hi < x.toInt then some (dflt, ls, r, σ) else match tg[(x.toInt - lo).toNat]? with
    | some t => some (t, ls, r, σ)
    | none => none
  | _ => none
/-- Double.doubleToRawLongBits -/
def ab_bits : ab_T := fun pc ls st σ => match st with
  | .double x :: r => if (r.map fun v => v.category).sum ≤ 8 then some (pc + 3, ls, .long x.toInt64 :: r, σ) else none
  | _ => none
/-! the makings -/
def ab_new (ci : Nat) (fs : List Value) : ab_N := fun st => some (.inr (ci, fs), fs.length, st)
def ab_newi : ab_N := fun st => match st with
  | .int n :: r => if n < 0 ∨ 60000 < n.toNatClampNeg then none else some (.inl (n.toNatClampNeg, .inl (fun _ => 0)), n.toNatClampNeg, r)
  | _ => none
def ab_newl : ab_N := fun st => match st with
  | .int n :: r => if n < 0 ∨ 60000 < n.toNatClampNeg then none else some (.inl (n.toNatClampNeg, .inr (.inl (fun _ => 0))), n.toNatClampNeg, r)
  | _ => none
/-- a new array of references: none within; beyond it what is never read -/
def ab_nq (n : Nat) : Nat → Option Nat := fun i => if i < n then none else some (94 + 7 * i)
def ab_newq : ab_N := fun st => match st with
  | .int n :: r => if n < 0 ∨ 60000 < n.toNatClampNeg then none else some (.inl (n.toNatClampNeg, .inr (.inr (.inr (.inr (ab_nq n.toNatClampNeg))))), n.toNatClampNeg, r)
  | _ => none
def ab_mk (g : ab_G) (σ : ab_S) (x : ab_C) (n : Nat) : ab_W := ((g.1, g.2.1 + 1, g.2.2.1 + 1, g.2.2.2 + n), ab_up σ g.2.1 (some x))
/-- what a throw makes is lost from sight -/
def ab_th (g : ab_G) : ab_G := (false, g.2.1, g.2.2.1 + 1, g.2.2.2 + 6)
