/-! ===== doubles ===== -/
/-- the double of exponent e and fraction t -/
def db (e t : Nat) : UInt64 := UInt64.ofNat (e * 4503599627370496 + t)
theorem db_nat {e t : Nat} (he : e ≤ 2046) (ht : t < 4503599627370496) : (db e t).toNat = e * 4503599627370496 + t := by
  unfold db
  rw [UInt64.toNat_ofNat']
  exact Nat.mod_eq_of_lt (by omega)
theorem f_tails : FP.Core.Fmt.tails FP.Core.b64 = 4503599627370496 := rfl
theorem f_exps : FP.Core.Fmt.exps FP.Core.b64 = 2048 := rfl
theorem f_qmin : FP.Core.Fmt.qmin FP.Core.b64 = -1074 := by decide
theorem f_qmax : FP.Core.Fmt.qmax FP.Core.b64 = 971 := by decide
theorem f_p : FP.Core.b64.p = 53 := rfl
theorem db_dec {e t : Nat} (h1 : 1 ≤ e) (he : e ≤ 2046) (ht : t < 4503599627370496) : FP.Core.decode FP.Core.b64 (db e t).toNat = .fin false (4503599627370496 + t) ((e : Int) - 1075) := by
  rw [db_nat he ht]
  have a : FP.Core.fieldE FP.Core.b64 (e * 4503599627370496 + t) = e := by
    unfold FP.Core.fieldE
    rw [f_tails, f_exps]
    omega
  have b : FP.Core.fieldT FP.Core.b64 (e * 4503599627370496 + t) = t := by
    unfold FP.Core.fieldT
    rw [f_tails]
    omega
  have c : FP.Core.fieldS FP.Core.b64 (e * 4503599627370496 + t) = false := by
    unfold FP.Core.fieldS
    rw [f_tails, f_exps]
    have : (e * 4503599627370496 + t) / 4503599627370496 / 2048 % 2 = 0 := by omega
    rw [this]
    rfl
  unfold FP.Core.decode
  rw [a, b, c, f_exps, f_tails, f_qmin, if_neg (by omega), if_neg (by omega)]
  congr 1
  omega
theorem db_enc {c : Nat} {q : Int} (h1 : 4503599627370496 ≤ c) (h2 : c < 9007199254740992) (h3 : -1074 ≤ q) : UInt64.ofNat (FP.Core.encode FP.Core.b64 (.fin false c q)) = db (q + 1075).toNat (c - 4503599627370496) := by
  unfold db
  show UInt64.ofNat (if c < FP.Core.Fmt.tails FP.Core.b64 then FP.Core.assemble FP.Core.b64 false 0 c else FP.Core.assemble FP.Core.b64 false ((q - FP.Core.Fmt.qmin FP.Core.b64).toNat + 1) (c - FP.Core.Fmt.tails FP.Core.b64)) = _
  rw [f_tails, if_neg (by omega)]
  unfold FP.Core.assemble
  rw [f_tails, f_exps, f_qmin]
  refine congrArg UInt64.ofNat ?_
  have : false.toNat = 0 := rfl
  rw [this, Nat.zero_mul, Nat.zero_add]
  have : (q - -1074).toNat + 1 = (q + 1075).toNat := by omega
  rw [this]
theorem near_ex {c D : Nat} (h : 0 < D) : FP.Core.nearest (c * D) D = c := by
  unfold FP.Core.nearest
  rw [Nat.mul_mod_left, if_pos (by omega), Nat.mul_div_cancel _ h]
theorem near_rg {N D : Nat} (h1 : 4503599627370496 * D ≤ N) (h2 : N < 9007199254740992 * D) : 4503599627370496 ≤ FP.Core.nearest N D ∧ FP.Core.nearest N D ≤ 9007199254740992 := by
  have h0 : 0 < D := by omega
  have d1 : 4503599627370496 ≤ N / D := (Nat.le_div_iff_mul_le h0).mpr h1
  have d2 : N / D < 9007199254740992 := (Nat.div_lt_iff_lt_mul h0).mpr h2
  unfold FP.Core.nearest
  split
  · omega
  · split <;> omega
/-- a rounding that stays normal -/
theorem rr_ok {num den : Nat} {e q : Int} (h0 : num ≠ 0) (hq : FP.Core.quantum FP.Core.b64 num den e = q) (q2 : q ≤ 900) (h1 : 4503599627370496 * FP.Core.unitsDen den e q ≤ FP.Core.unitsNum num e q) (h2 : FP.Core.unitsNum num e q < 9007199254740992 * FP.Core.unitsDen den e q) : ∃ c q', FP.Core.roundRatio FP.Core.b64 false num den e = .fin false c q' ∧ 4503599627370496 ≤ c ∧ c < 9007199254740992 ∧ q ≤ q' ∧ q' ≤ q + 1 := by
  have n := near_rg h1 h2
  unfold FP.Core.roundRatio
  rw [if_neg h0, hq]
  unfold FP.Core.roundAt FP.Core.settle
  by_cases z : FP.Core.nearest (FP.Core.unitsNum num e q) (FP.Core.unitsDen den e q) < 9007199254740992
  · have e1 : (2 : Nat) ^ FP.Core.b64.p = 9007199254740992 := rfl
    rw [e1, if_pos z]
    unfold FP.Core.bound
    rw [f_qmax, if_pos (by omega)]
    exact ⟨_, _, rfl, n.1, z, by omega, by omega⟩
  · have e1 : (2 : Nat) ^ FP.Core.b64.p = 9007199254740992 := rfl
    rw [e1, if_neg z]
    unfold FP.Core.bound
    rw [f_qmax, f_tails, if_pos (by omega)]
    exact ⟨_, _, rfl, by omega, by omega, by omega, by omega⟩
/-- a rounding that changes nothing -/
theorem rr_ex {num den c : Nat} {e q : Int} (h0 : num ≠ 0) (hq : FP.Core.quantum FP.Core.b64 num den e = q) (q2 : q ≤ 971) (hd : 0 < FP.Core.unitsDen den e q) (h1 : FP.Core.unitsNum num e q = c * FP.Core.unitsDen den e q) (h2 : c < 9007199254740992) : FP.Core.roundRatio FP.Core.b64 false num den e = .fin false c q := by
  unfold FP.Core.roundRatio
  rw [if_neg h0, hq]
  unfold FP.Core.roundAt FP.Core.settle
  rw [h1, near_ex hd]
  have e1 : (2 : Nat) ^ FP.Core.b64.p = 9007199254740992 := rfl
  rw [e1, if_pos h2]
  unfold FP.Core.bound
  rw [f_qmax, if_pos q2]
theorem lead_1 {n : Nat} (h : n ≠ 0) : FP.Core.leading n 1 = (n.log2 : Int) := by
  unfold FP.Core.leading
  have e : (1 : Nat).log2 = 0 := by decide
  rw [e]
  have p := Nat.log2_self_le h
  simp only
  rw [show (((n.log2 : Nat) : Int) - ((0 : Nat) : Int)) = (n.log2 : Int) by omega]
  rw [if_pos]
  rw [show ((n.log2 : Int)).toNat = n.log2 by omega, show (-(n.log2 : Int)).toNat = 0 by omega]
  omega
theorem log_52 {c : Nat} (h1 : 4503599627370496 ≤ c) (h2 : c < 9007199254740992) : c.log2 = 52 := by
  have a : 2 ^ 52 ≤ c := h1
  have b : c < 2 ^ 53 := h2
  have l := (Nat.le_log2 (n := c) (k := 52) (by omega)).mpr a
  have r := (Nat.log2_lt (n := c) (k := 53) (by omega)).mpr b
  omega
theorem lead_cc {c d : Nat} (h1 : 4503599627370496 ≤ c) (h2 : c < 9007199254740992) (h3 : 4503599627370496 ≤ d) (h4 : d < 9007199254740992) : FP.Core.leading c d = if d ≤ c then 0 else -1 := by
  unfold FP.Core.leading
  rw [log_52 h1 h2, log_52 h3 h4]
  have e : (((52 : Nat) : Int) - ((52 : Nat) : Int)) = 0 := by omega
  rw [e]
  simp only
  have e1 : (0 : Int).toNat = 0 := rfl
  have e2 : (-(0 : Int)).toNat = 0 := rfl
  rw [e1, e2, Nat.pow_zero, Nat.mul_one, Nat.mul_one]
  rfl
theorem c_two : (4611686018427387904 : UInt64) = db 1024 0 := by decide
theorem c_one : FP.dconst1 = db 1023 0 := by decide
theorem c_big : (4841369599423283200 : UInt64) = db 1075 0 := by decide
theorem quan {num den : Nat} {e : Int} : FP.Core.quantum FP.Core.b64 num den e = max (-1074) (FP.Core.leading num den + e - 52) := by
  unfold FP.Core.quantum
  rw [f_qmin, f_p]
  rfl
theorem quo_fin {s t : Bool} {c d : Nat} {q r : Int} : FP.Core.quotient FP.Core.b64 (.fin s c q) (.fin t d r) = if d = 0 then (if c = 0 then .nan else .inf (s != t)) else FP.Core.roundRatio FP.Core.b64 (s != t) c d (q - r) := rfl
theorem bff : (false != false) = false := rfl
theorem db_half {e t : Nat} (h1 : 2 ≤ e) (he : e ≤ 2046) (ht : t < 4503599627370496) : FP.ddiv (db e t) 4611686018427387904 = db (e - 1) t := by
  rw [c_two]
  show UInt64.ofNat (FP.Core.encode FP.Core.b64 (FP.Core.quotient FP.Core.b64 (FP.Core.decode FP.Core.b64 (db e t).toNat) (FP.Core.decode FP.Core.b64 (db 1024 0).toNat))) = _
  rw [db_dec (by omega) he ht, db_dec (by omega) (by omega) (by omega)]
  rw [quo_fin, if_neg (by omega), bff]
  have q : FP.Core.quantum FP.Core.b64 (4503599627370496 + t) (4503599627370496 + 0) ((e : Int) - 1075 - (((1024 : Nat) : Int) - 1075)) = (e : Int) - 1076 := by
    rw [quan, lead_cc (by omega) (by omega) (by omega) (by omega), if_pos (by omega)]
    omega
  have ud : FP.Core.unitsDen (4503599627370496 + 0) ((e : Int) - 1075 - (((1024 : Nat) : Int) - 1075)) ((e : Int) - 1076) = 4503599627370496 := by
    unfold FP.Core.unitsDen
    rw [show ((e : Int) - 1076 - ((e : Int) - 1075 - (((1024 : Nat) : Int) - 1075))).toNat = 0 by omega]
  have un : FP.Core.unitsNum (4503599627370496 + t) ((e : Int) - 1075 - (((1024 : Nat) : Int) - 1075)) ((e : Int) - 1076) = (4503599627370496 + t) * 4503599627370496 := by
    unfold FP.Core.unitsNum
    rw [show ((e : Int) - 1075 - (((1024 : Nat) : Int) - 1075) - ((e : Int) - 1076)).toNat = 52 by omega]
  rw [rr_ex (c := 4503599627370496 + t) (by omega) q (by omega) (by rw [ud]; omega) (by rw [ud, un]) (by omega)]
  rw [db_enc (by omega) (by omega) (by omega)]
  rw [show ((e : Int) - 1076 + 1075).toNat = e - 1 by omega, Nat.add_sub_cancel_left]
theorem log_mul {c d : Nat} (h1 : 4503599627370496 ≤ c) (h2 : c < 9007199254740992) (h3 : 4503599627370496 ≤ d) (h4 : d < 9007199254740992) : (c * d).log2 = 104 ∨ (c * d).log2 = 105 := by
  have a : 4503599627370496 * 4503599627370496 ≤ c * d := Nat.mul_le_mul h1 h3
  have b : c * d < 9007199254740992 * 9007199254740992 := Nat.mul_lt_mul'' h2 h4
  have a2 : 2 ^ 104 ≤ c * d := a
  have b2 : c * d < 2 ^ 106 := b
  have l := (Nat.le_log2 (n := c * d) (k := 104) (by omega)).mpr a2
  have r := (Nat.log2_lt (n := c * d) (k := 106) (by omega)).mpr b2
  omega
theorem log_sh {c : Nat} (h1 : 4503599627370496 ≤ c) (h2 : c < 9007199254740992) : (c * 4503599627370496).log2 = 104 := by
  have a2 : 2 ^ 104 ≤ c * 4503599627370496 := by
    have a : 4503599627370496 * 4503599627370496 ≤ c * 4503599627370496 := Nat.mul_le_mul_right _ h1
    exact a
  have b2 : c * 4503599627370496 < 2 ^ 105 := by
    have b : c * 4503599627370496 < 9007199254740992 * 4503599627370496 := Nat.mul_lt_mul_of_pos_right h2 (by omega)
    exact b
  have l := (Nat.le_log2 (n := c * 4503599627370496) (k := 104) (by omega)).mpr a2
  have r := (Nat.log2_lt (n := c * 4503599627370496) (k := 105) (by omega)).mpr b2
  omega
/-- times a power of two, e2 - 1023 -/
theorem db_sh {e t e2 : Nat} (h1 : 1 ≤ e) (he : e ≤ 2046) (ht : t < 4503599627370496) (h3 : 1 ≤ e2) (h4 : e2 ≤ 2046) (h5 : 1024 ≤ e + e2) (h6 : e + e2 ≤ 3069) : FP.dmul (db e t) (db e2 0) = db (e + e2 - 1023) t := by
  show UInt64.ofNat (FP.Core.encode FP.Core.b64 (FP.Core.round FP.Core.b64 (FP.Core.exactProduct (FP.Core.decode FP.Core.b64 (db e t).toNat) (FP.Core.decode FP.Core.b64 (db e2 0).toNat)))) = _
  rw [db_dec h1 he ht, db_dec h3 h4 (by omega)]
  show UInt64.ofNat (FP.Core.encode FP.Core.b64 (FP.Core.roundRatio FP.Core.b64 false ((4503599627370496 + t) * (4503599627370496 + 0)) 1 ((e : Int) - 1075 + ((e2 : Int) - 1075)))) = _
  rw [Nat.add_zero]
  have lg := log_sh (c := 4503599627370496 + t) (by omega) (by omega)
  have q : FP.Core.quantum FP.Core.b64 ((4503599627370496 + t) * 4503599627370496) 1 ((e : Int) - 1075 + ((e2 : Int) - 1075)) = (e : Int) + e2 - 2098 := by
    rw [quan, lead_1 (by omega), lg]
    omega
  have ud : FP.Core.unitsDen 1 ((e : Int) - 1075 + ((e2 : Int) - 1075)) ((e : Int) + e2 - 2098) = 4503599627370496 := by
    unfold FP.Core.unitsDen
    rw [show ((e : Int) + e2 - 2098 - ((e : Int) - 1075 + ((e2 : Int) - 1075))).toNat = 52 by omega]
  have un : FP.Core.unitsNum ((4503599627370496 + t) * 4503599627370496) ((e : Int) - 1075 + ((e2 : Int) - 1075)) ((e : Int) + e2 - 2098) = (4503599627370496 + t) * 4503599627370496 := by
    unfold FP.Core.unitsNum
    rw [show ((e : Int) - 1075 + ((e2 : Int) - 1075) - ((e : Int) + e2 - 2098)).toNat = 0 by omega, Nat.pow_zero, Nat.mul_one]
  rw [rr_ex (c := 4503599627370496 + t) (by omega) q (by omega) (by rw [ud]; omega) (by rw [ud, un]) (by omega)]
  rw [db_enc (by omega) (by omega) (by omega)]
  rw [show ((e : Int) + e2 - 2098 + 1075).toNat = e + e2 - 1023 by omega, Nat.add_sub_cancel_left]
theorem db_twice {e t : Nat} (h1 : 1 ≤ e) (he : e ≤ 2045) (ht : t < 4503599627370496) : FP.dmul (db e t) 4611686018427387904 = db (e + 1) t := by
  rw [c_two, db_sh h1 (by omega) ht (by omega) (by omega) (by omega) (by omega), show e + 1024 - 1023 = e + 1 by omega]
theorem n64_db {e t : Nat} (he : e ≤ 2046) (ht : t < 4503599627370496) : ab_n64 (db e t) = true := by
  unfold ab_n64
  refine decide_eq_true ?_
  rw [UInt64.le_iff_toNat_le, UInt64.toNat_and, db_nat he ht]
  have e1 : (9223372036854775807 : UInt64).toNat = 2 ^ 63 - 1 := by decide
  have e2 : (9218868437227405312 : UInt64).toNat = 9218868437227405312 := by decide
  rw [e1, e2, Nat.and_two_pow_sub_one_eq_mod]
  have := Nat.mod_le (e * 4503599627370496 + t) (2 ^ 63)
  omega
/-! the fraction's whole number -/
theorem db_sub0 : FP.dsub (db 1023 0) FP.dconst1 = 0 := by decide +kernel
theorem db_sub1 {t : Nat} (h0 : t ≠ 0) (ht : t < 4503599627370496) : ∃ l, l ≤ 51 ∧ 4503599627370496 ≤ t * 2 ^ (52 - l) ∧ t * 2 ^ (52 - l) < 9007199254740992 ∧ FP.dsub (db 1023 t) FP.dconst1 = db (l + 971) (t * 2 ^ (52 - l) - 4503599627370496) := by
  have p1 := Nat.log2_self_le h0
  have p2 : t < 2 ^ (t.log2 + 1) := Nat.lt_log2_self
  have l51 : t.log2 ≤ 51 := by
    have := (Nat.log2_lt (n := t) (k := 52) h0).mpr ht
    omega
  have b1 : 4503599627370496 ≤ t * 2 ^ (52 - t.log2) := by
    have a := Nat.mul_le_mul_right (2 ^ (52 - t.log2)) p1
    rw [← Nat.pow_add, show t.log2 + (52 - t.log2) = 52 by omega] at a
    exact a
  have b2 : t * 2 ^ (52 - t.log2) < 9007199254740992 := by
    have a := Nat.mul_lt_mul_of_pos_right p2 (Nat.two_pow_pos (52 - t.log2))
    rw [← Nat.pow_add, show t.log2 + 1 + (52 - t.log2) = 53 by omega] at a
    exact a
  refine ⟨t.log2, l51, b1, b2, ?_⟩
  rw [c_one]
  show UInt64.ofNat (FP.Core.encode FP.Core.b64 (FP.Core.round FP.Core.b64 (FP.Core.exactSum (FP.Core.decode FP.Core.b64 (db 1023 t).toNat) (FP.Core.negate (FP.Core.decode FP.Core.b64 (db 1023 0).toNat))))) = _
  rw [db_dec (by omega) (by omega) ht, db_dec (by omega) (by omega) (by omega)]
  have q0 : (((1023 : Nat) : Int) - 1075) = -52 := by decide
  rw [q0]
  have ex : FP.Core.exactSum (.fin false (4503599627370496 + t) (-52)) (FP.Core.negate (.fin false (4503599627370496 + 0) (-52))) = .fin false t (-52) := by
    show FP.Core.Datum.fin (FP.Core.sumSign false true (FP.Core.sumUnits false (4503599627370496 + t) (-52) true (4503599627370496 + 0) (-52) (min (-52) (-52)))) (FP.Core.sumUnits false (4503599627370496 + t) (-52) true (4503599627370496 + 0) (-52) (min (-52) (-52))).natAbs (min (-52) (-52)) = _
    have m : (min (-52) (-52) : Int) = -52 := by decide
    rw [m]
    have v : FP.Core.sumUnits false (4503599627370496 + t) (-52) true (4503599627370496 + 0) (-52) (-52) = (t : Int) := by
      unfold FP.Core.sumUnits FP.Core.inUnits
      have z : ((-52 : Int) - -52).toNat = 0 := by decide
      rw [z, Nat.pow_zero, Nat.mul_one, Nat.mul_one]
      show ((4503599627370496 + t : Nat) : Int) + -((4503599627370496 + 0 : Nat) : Int) = _
      omega
    rw [v]
    unfold FP.Core.sumSign
    rw [if_neg (by omega)]
    have d : decide ((t : Int) < 0) = false := decide_eq_false (by omega)
    rw [d]
    rfl
  rw [ex]
  show UInt64.ofNat (FP.Core.encode FP.Core.b64 (FP.Core.roundRatio FP.Core.b64 false t 1 (-52))) = _
  have q : FP.Core.quantum FP.Core.b64 t 1 (-52) = (t.log2 : Int) - 104 := by
    rw [quan, lead_1 h0]
    omega
  have ud : FP.Core.unitsDen 1 (-52) ((t.log2 : Int) - 104) = 1 := by
    unfold FP.Core.unitsDen
    rw [show ((t.log2 : Int) - 104 - -52).toNat = 0 by omega]
  have un : FP.Core.unitsNum t (-52) ((t.log2 : Int) - 104) = t * 2 ^ (52 - t.log2) := by
    unfold FP.Core.unitsNum
    rw [show (-52 - ((t.log2 : Int) - 104)).toNat = 52 - t.log2 by omega]
  rw [rr_ex (c := t * 2 ^ (52 - t.log2)) h0 q (by omega) (by rw [ud]; omega) (by rw [ud, un, Nat.mul_one]) b2]
  rw [db_enc b1 b2 (by omega)]
  rw [show ((t.log2 : Int) - 104 + 1075).toNat = t.log2 + 971 by omega]
theorem db_d2l {l t : Nat} (hl : l ≤ 51) (h1 : 4503599627370496 ≤ t * 2 ^ (52 - l)) (h2 : t * 2 ^ (52 - l) < 9007199254740992) : FP.d2l (db (l + 1023) (t * 2 ^ (52 - l) - 4503599627370496)) = lN t := by
  have ht : t ≤ t * 2 ^ (52 - l) := Nat.le_mul_of_pos_right _ (Nat.two_pow_pos _)
  show FP.Core.toL (FP.Core.decode FP.Core.b64 (db (l + 1023) (t * 2 ^ (52 - l) - 4503599627370496)).toNat) = _
  rw [db_dec (by omega) (by omega) (by omega)]
  rw [show 4503599627370496 + (t * 2 ^ (52 - l) - 4503599627370496) = t * 2 ^ (52 - l) by omega]
  show Int64.ofInt (max (-2 ^ 63) (min (2 ^ 63 - 1) (FP.Core.truncate false (t * 2 ^ (52 - l)) (((l + 1023 : Nat) : Int) - 1075)))) = _
  have e : FP.Core.truncate false (t * 2 ^ (52 - l)) (((l + 1023 : Nat) : Int) - 1075) = (t : Int) := by
    unfold FP.Core.truncate
    rw [show (((l + 1023 : Nat) : Int) - 1075).toNat = 0 by omega, show (-(((l + 1023 : Nat) : Int) - 1075)).toNat = 52 - l by omega]
    rw [Nat.pow_zero, Nat.mul_one, Nat.mul_div_cancel _ (Nat.two_pow_pos _)]
    rfl
  rw [e]
  have m : max (-2 ^ 63) (min (2 ^ 63 - 1) (t : Int)) = (t : Int) := by omega
  rw [m]
  rfl
/-- what the last row of bitsOf works out -/
theorem db_frac {t : Nat} (ht : t < 4503599627370496) : ab_n64 (FP.dsub (db 1023 t) FP.dconst1) = true ∧ ab_n64 (FP.dmul (FP.dsub (db 1023 t) FP.dconst1) 4841369599423283200) = true ∧ FP.d2l (FP.dmul (FP.dsub (db 1023 t) FP.dconst1) 4841369599423283200) = lN t := by
  by_cases z : t = 0
  · subst z
    rw [db_sub0]
    exact ⟨by decide +kernel, by decide +kernel, by decide +kernel⟩
  · obtain ⟨l, l51, b1, b2, e⟩ := db_sub1 z ht
    rw [e, c_big, db_sh (by omega) (by omega) (by omega) (by omega) (by omega) (by omega) (by omega)]
    rw [show l + 971 + 1075 - 1023 = l + 1023 by omega]
    exact ⟨n64_db (by omega) (by omega), n64_db (by omega) (by omega), db_d2l l51 b1 b2⟩
/-! comparisons -/
theorem icmp_lt {a b : Int} (h : a < b) : compare a b = .lt := by
  show compareOfLessAndEq a b = .lt
  unfold compareOfLessAndEq
  rw [if_pos h]
theorem icmp_eq {a : Int} : compare a a = .eq := by
  show compareOfLessAndEq a a = .eq
  unfold compareOfLessAndEq
  rw [if_neg (by omega), if_pos rfl]
theorem icmp_gt {a b : Int} (h : b < a) : compare a b = .gt := by
  show compareOfLessAndEq a b = .gt
  unfold compareOfLessAndEq
  rw [if_neg (by omega), if_neg (by omega)]
theorem ord_fin {c d : Nat} {q r : Int} : FP.Core.order (.fin false c q) (.fin false d r) = some (compare ((FP.Core.inUnits c q (min q r) : Nat) : Int) ((FP.Core.inUnits d r (min q r) : Nat) : Int)) := rfl
theorem db_cmp {e t e2 t2 : Nat} (h1 : 1 ≤ e) (he : e ≤ 2046) (ht : t < 4503599627370496) (h2 : 1 ≤ e2) (he2 : e2 ≤ 2046) (ht2 : t2 < 4503599627370496) : FP.dcmp (db e t) (db e2 t2) = FP.Core.order (.fin false (4503599627370496 + t) ((e : Int) - 1075)) (.fin false (4503599627370496 + t2) ((e2 : Int) - 1075)) := by
  show FP.Core.order (FP.Core.decode FP.Core.b64 (db e t).toNat) (FP.Core.decode FP.Core.b64 (db e2 t2).toNat) = _
  rw [db_dec h1 he ht, db_dec h2 he2 ht2]
theorem db_lt {e t e2 : Nat} (h1 : 1 ≤ e) (he : e ≤ 2046) (ht : t < 4503599627370496) (he2 : e2 ≤ 2046) (h : e < e2) : FP.dcmp (db e t) (db e2 0) = some .lt := by
  rw [db_cmp h1 he ht (by omega) he2 (by omega), ord_fin]
  rw [show min ((e : Int) - 1075) ((e2 : Int) - 1075) = (e : Int) - 1075 by omega]
  refine congrArg some (icmp_lt ?_)
  unfold FP.Core.inUnits
  rw [show ((e : Int) - 1075 - ((e : Int) - 1075)).toNat = 0 by omega, show ((e2 : Int) - 1075 - ((e : Int) - 1075)).toNat = (e2 - e - 1) + 1 by omega, Nat.pow_zero, Nat.mul_one, Nat.pow_succ]
  have p := Nat.two_pow_pos (e2 - e - 1)
  have m : (4503599627370496 + 0) * (1 * 2) ≤ (4503599627370496 + 0) * (2 ^ (e2 - e - 1) * 2) := Nat.mul_le_mul_left _ (Nat.mul_le_mul_right _ p)
  omega
theorem db_ge {e t e2 : Nat} (he : e ≤ 2046) (ht : t < 4503599627370496) (h2 : 1 ≤ e2) (h : e2 ≤ e) : FP.dcmp (db e t) (db e2 0) = some .gt ∨ FP.dcmp (db e t) (db e2 0) = some .eq := by
  rw [db_cmp (by omega) he ht h2 (by omega) (by omega), ord_fin]
  rw [show min ((e : Int) - 1075) ((e2 : Int) - 1075) = (e2 : Int) - 1075 by omega]
  unfold FP.Core.inUnits
  rw [show ((e2 : Int) - 1075 - ((e2 : Int) - 1075)).toNat = 0 by omega, Nat.pow_zero, Nat.mul_one]
  have p := Nat.two_pow_pos ((e : Int) - 1075 - ((e2 : Int) - 1075)).toNat
  have m : (4503599627370496 + t) * 1 ≤ (4503599627370496 + t) * 2 ^ ((e : Int) - 1075 - ((e2 : Int) - 1075)).toNat := Nat.mul_le_mul_left _ p
  generalize (4503599627370496 + t) * 2 ^ ((e : Int) - 1075 - ((e2 : Int) - 1075)).toNat = y at *
  by_cases z : y = 4503599627370496
  · refine Or.inr (congrArg some ?_)
    rw [z]
    exact icmp_eq
  · exact Or.inl (congrArg some (icmp_gt (by omega)))
theorem db_self {e t : Nat} (h1 : 1 ≤ e) (he : e ≤ 2046) (ht : t < 4503599627370496) : FP.dcmp (db e t) (db e t) = some .eq := by
  rw [db_cmp h1 he ht h1 he ht, ord_fin]
  exact congrArg some icmp_eq
theorem db_pos {e t : Nat} (h1 : 1 ≤ e) (he : e ≤ 2046) (ht : t < 4503599627370496) : FP.dcmp (db e t) FP.dconst0 = some .gt := by
  show FP.Core.order (FP.Core.decode FP.Core.b64 (db e t).toNat) (FP.Core.decode FP.Core.b64 FP.dconst0.toNat) = _
  have z : FP.Core.decode FP.Core.b64 FP.dconst0.toNat = .fin false 0 (-1074) := by decide +kernel
  rw [db_dec h1 he ht, z, ord_fin]
  refine congrArg some (icmp_gt ?_)
  unfold FP.Core.inUnits
  rw [Nat.zero_mul]
  have p := Nat.mul_pos (show 0 < 4503599627370496 + t by omega) (Nat.two_pow_pos ((e : Int) - 1075 - min ((e : Int) - 1075) (-1074)).toNat)
  omega
/-! whole numbers, products, quotients -/
theorem db_int {n : Nat} (h0 : n ≠ 0) (h : n < 9007199254740992) : ∃ e t, 1023 ≤ e ∧ e ≤ 1075 ∧ t < 4503599627370496 ∧ UInt64.ofNat (FP.Core.fromInt FP.Core.b64 (n : Int)) = db e t := by
  have p1 := Nat.log2_self_le h0
  have p2 : n < 2 ^ (n.log2 + 1) := Nat.lt_log2_self
  have l52 : n.log2 ≤ 52 := by
    have := (Nat.log2_lt (n := n) (k := 53) h0).mpr h
    omega
  have b1 : 4503599627370496 ≤ n * 2 ^ (52 - n.log2) := by
    have a := Nat.mul_le_mul_right (2 ^ (52 - n.log2)) p1
    rw [← Nat.pow_add, show n.log2 + (52 - n.log2) = 52 by omega] at a
    exact a
  have b2 : n * 2 ^ (52 - n.log2) < 9007199254740992 := by
    have a := Nat.mul_lt_mul_of_pos_right p2 (Nat.two_pow_pos (52 - n.log2))
    rw [← Nat.pow_add, show n.log2 + 1 + (52 - n.log2) = 53 by omega] at a
    exact a
  have d : decide ((n : Int) < 0) = false := decide_eq_false (by omega)
  refine ⟨n.log2 + 1023, n * 2 ^ (52 - n.log2) - 4503599627370496, by omega, by omega, by omega, ?_⟩
  show UInt64.ofNat (FP.Core.encode FP.Core.b64 (FP.Core.roundRatio FP.Core.b64 (decide ((n : Int) < 0)) n 1 0)) = _
  rw [d]
  have q : FP.Core.quantum FP.Core.b64 n 1 0 = (n.log2 : Int) - 52 := by
    rw [quan, lead_1 h0]
    omega
  have ud : FP.Core.unitsDen 1 0 ((n.log2 : Int) - 52) = 1 := by
    unfold FP.Core.unitsDen
    rw [show ((n.log2 : Int) - 52 - 0).toNat = 0 by omega]
  have un : FP.Core.unitsNum n 0 ((n.log2 : Int) - 52) = n * 2 ^ (52 - n.log2) := by
    unfold FP.Core.unitsNum
    rw [show (0 - ((n.log2 : Int) - 52)).toNat = 52 - n.log2 by omega]
  rw [rr_ex (c := n * 2 ^ (52 - n.log2)) h0 q (by omega) (by rw [ud]; omega) (by rw [ud, un, Nat.mul_one]) b2]
  rw [db_enc b1 b2 (by omega)]
  rw [show ((n.log2 : Int) - 52 + 1075).toNat = n.log2 + 1023 by omega]
theorem db_i2d {n : Nat} (h0 : n ≠ 0) (h : n < 2147483648) : ∃ e t, 1023 ≤ e ∧ e ≤ 1075 ∧ t < 4503599627370496 ∧ FP.i2d (nI n) = db e t := by
  show ∃ e t, 1023 ≤ e ∧ e ≤ 1075 ∧ t < 4503599627370496 ∧ UInt64.ofNat (FP.Core.fromInt FP.Core.b64 (nI n).toInt) = db e t
  rw [nI_toInt (by omega)]
  exact db_int h0 (by omega)
theorem db_l2d {n : Nat} (h0 : n ≠ 0) (h : n < 9007199254740992) : ∃ e t, 1023 ≤ e ∧ e ≤ 1075 ∧ t < 4503599627370496 ∧ FP.l2d (lN n) = db e t := by
  show ∃ e t, 1023 ≤ e ∧ e ≤ 1075 ∧ t < 4503599627370496 ∧ UInt64.ofNat (FP.Core.fromInt FP.Core.b64 (lN n).toInt) = db e t
  rw [pk_lT (by omega)]
  exact db_int h0 h
theorem db_mul {e t e2 t2 : Nat} (h1 : 1000 ≤ e) (he : e ≤ 1200) (ht : t < 4503599627370496) (h2 : 1000 ≤ e2) (he2 : e2 ≤ 1200) (ht2 : t2 < 4503599627370496) : ∃ e3 t3, e + e2 - 1023 ≤ e3 ∧ e3 ≤ e + e2 - 1021 ∧ t3 < 4503599627370496 ∧ FP.dmul (db e t) (db e2 t2) = db e3 t3 := by
  show ∃ e3 t3, e + e2 - 1023 ≤ e3 ∧ e3 ≤ e + e2 - 1021 ∧ t3 < 4503599627370496 ∧ UInt64.ofNat (FP.Core.encode FP.Core.b64 (FP.Core.round FP.Core.b64 (FP.Core.exactProduct (FP.Core.decode FP.Core.b64 (db e t).toNat) (FP.Core.decode FP.Core.b64 (db e2 t2).toNat)))) = db e3 t3
  rw [db_dec (by omega) (by omega) ht, db_dec (by omega) (by omega) ht2]
  show ∃ e3 t3, e + e2 - 1023 ≤ e3 ∧ e3 ≤ e + e2 - 1021 ∧ t3 < 4503599627370496 ∧ UInt64.ofNat (FP.Core.encode FP.Core.b64 (FP.Core.roundRatio FP.Core.b64 false ((4503599627370496 + t) * (4503599627370496 + t2)) 1 ((e : Int) - 1075 + ((e2 : Int) - 1075)))) = db e3 t3
  have lg := log_mul (c := 4503599627370496 + t) (d := 4503599627370496 + t2) (by omega) (by omega) (by omega) (by omega)
  have n0 : (4503599627370496 + t) * (4503599627370496 + t2) ≠ 0 := Nat.ne_of_gt (Nat.mul_pos (by omega) (by omega))
  have p1 := Nat.log2_self_le n0
  have p2 : (4503599627370496 + t) * (4503599627370496 + t2) < 2 ^ (((4503599627370496 + t) * (4503599627370496 + t2)).log2 + 1) := Nat.lt_log2_self
  generalize (4503599627370496 + t) * (4503599627370496 + t2) = num at *
  have q : FP.Core.quantum FP.Core.b64 num 1 ((e : Int) - 1075 + ((e2 : Int) - 1075)) = (num.log2 : Int) + e + e2 - 2202 := by
    rw [quan, lead_1 n0]
    omega
  have ud : FP.Core.unitsDen 1 ((e : Int) - 1075 + ((e2 : Int) - 1075)) ((num.log2 : Int) + e + e2 - 2202) = 2 ^ (num.log2 - 52) := by
    unfold FP.Core.unitsDen
    rw [show ((num.log2 : Int) + e + e2 - 2202 - ((e : Int) - 1075 + ((e2 : Int) - 1075))).toNat = num.log2 - 52 by omega, Nat.one_mul]
  have un : FP.Core.unitsNum num ((e : Int) - 1075 + ((e2 : Int) - 1075)) ((num.log2 : Int) + e + e2 - 2202) = num := by
    unfold FP.Core.unitsNum
    rw [show ((e : Int) - 1075 + ((e2 : Int) - 1075) - ((num.log2 : Int) + e + e2 - 2202)).toNat = 0 by omega, Nat.pow_zero, Nat.mul_one]
  obtain ⟨c, q', r, c1, c2, q1, q2⟩ := rr_ok n0 q (by omega) (by
    rw [ud, un]
    have a : 2 ^ 52 * 2 ^ (num.log2 - 52) = 2 ^ num.log2 := by rw [← Nat.pow_add, show 52 + (num.log2 - 52) = num.log2 by omega]
    exact Nat.le_trans (Nat.le_of_eq a) p1) (by
    rw [ud, un]
    have a : 2 ^ (num.log2 + 1) = 2 ^ 53 * 2 ^ (num.log2 - 52) := by rw [← Nat.pow_add, show 53 + (num.log2 - 52) = num.log2 + 1 by omega]
    exact Nat.lt_of_lt_of_le p2 (Nat.le_of_eq a))
  rw [r, db_enc c1 c2 (by omega)]
  exact ⟨_, _, by omega, by omega, by omega, rfl⟩
theorem db_div {e t e2 t2 : Nat} (h1 : 1000 ≤ e) (he : e ≤ 1300) (ht : t < 4503599627370496) (h2 : 1000 ≤ e2) (he2 : e2 ≤ 1200) (ht2 : t2 < 4503599627370496) : ∃ e3 t3, 1 ≤ e3 ∧ e3 ≤ 2046 ∧ t3 < 4503599627370496 ∧ FP.ddiv (db e t) (db e2 t2) = db e3 t3 := by
  show ∃ e3 t3, 1 ≤ e3 ∧ e3 ≤ 2046 ∧ t3 < 4503599627370496 ∧ UInt64.ofNat (FP.Core.encode FP.Core.b64 (FP.Core.quotient FP.Core.b64 (FP.Core.decode FP.Core.b64 (db e t).toNat) (FP.Core.decode FP.Core.b64 (db e2 t2).toNat))) = db e3 t3
  rw [db_dec (by omega) (by omega) ht, db_dec (by omega) (by omega) ht2, quo_fin, if_neg (by omega), bff]
  have lc := lead_cc (c := 4503599627370496 + t) (d := 4503599627370496 + t2) (by omega) (by omega) (by omega) (by omega)
  by_cases z : 4503599627370496 + t2 ≤ 4503599627370496 + t
  · rw [if_pos z] at lc
    have q : FP.Core.quantum FP.Core.b64 (4503599627370496 + t) (4503599627370496 + t2) ((e : Int) - 1075 - ((e2 : Int) - 1075)) = (e : Int) - e2 - 52 := by
      rw [quan, lc]
      omega
    have ud : FP.Core.unitsDen (4503599627370496 + t2) ((e : Int) - 1075 - ((e2 : Int) - 1075)) ((e : Int) - e2 - 52) = 4503599627370496 + t2 := by
      unfold FP.Core.unitsDen
      rw [show ((e : Int) - e2 - 52 - ((e : Int) - 1075 - ((e2 : Int) - 1075))).toNat = 0 by omega, Nat.pow_zero, Nat.mul_one]
    have un : FP.Core.unitsNum (4503599627370496 + t) ((e : Int) - 1075 - ((e2 : Int) - 1075)) ((e : Int) - e2 - 52) = (4503599627370496 + t) * 4503599627370496 := by
      unfold FP.Core.unitsNum
      rw [show ((e : Int) - 1075 - ((e2 : Int) - 1075) - ((e : Int) - e2 - 52)).toNat = 52 by omega]
    obtain ⟨c, q', r, c1, c2, q1, q2⟩ := rr_ok (by omega) q (by omega) (by rw [ud, un]; omega) (by rw [ud, un]; omega)
    rw [r, db_enc c1 c2 (by omega)]
    exact ⟨_, _, by omega, by omega, by omega, rfl⟩
  · rw [if_neg z] at lc
    have q : FP.Core.quantum FP.Core.b64 (4503599627370496 + t) (4503599627370496 + t2) ((e : Int) - 1075 - ((e2 : Int) - 1075)) = (e : Int) - e2 - 53 := by
      rw [quan, lc]
      omega
    have ud : FP.Core.unitsDen (4503599627370496 + t2) ((e : Int) - 1075 - ((e2 : Int) - 1075)) ((e : Int) - e2 - 53) = 4503599627370496 + t2 := by
      unfold FP.Core.unitsDen
      rw [show ((e : Int) - e2 - 53 - ((e : Int) - 1075 - ((e2 : Int) - 1075))).toNat = 0 by omega, Nat.pow_zero, Nat.mul_one]
    have un : FP.Core.unitsNum (4503599627370496 + t) ((e : Int) - 1075 - ((e2 : Int) - 1075)) ((e : Int) - e2 - 53) = (4503599627370496 + t) * 9007199254740992 := by
      unfold FP.Core.unitsNum
      rw [show ((e : Int) - 1075 - ((e2 : Int) - 1075) - ((e : Int) - e2 - 53)).toNat = 53 by omega]
    obtain ⟨c, q', r, c1, c2, q1, q2⟩ := rr_ok (by omega) q (by omega) (by rw [ud, un]; omega) (by rw [ud, un]; omega)
    rw [r, db_enc c1 c2 (by omega)]
    exact ⟨_, _, by omega, by omega, by omega, rfl⟩
/-- the mean tempo of n beats in T: not a NaN on the way, and what it is -/
def d_mean (n T : Nat) : UInt64 := FP.ddiv (FP.dmul 4723321873536909312 (FP.i2d (nI n))) (FP.l2d (lN T))
theorem d_mean_ok {n T : Nat} (h1 : n ≠ 0) (h2 : n < 1000) (h3 : T ≠ 0) (h4 : T < 9007199254740992) : ab_n64 (FP.dmul 4723321873536909312 (FP.i2d (nI n))) = true ∧ ∃ e t, 1 ≤ e ∧ e ≤ 2046 ∧ t < 4503599627370496 ∧ d_mean n T = db e t := by
  obtain ⟨e1, t1, a1, a2, a3, a4⟩ := db_i2d h1 (by omega)
  obtain ⟨e2, t2, b1, b2, b3, b4⟩ := db_l2d h3 h4
  have k : (4723321873536909312 : UInt64) = db 1048 3549464052629504 := by decide
  obtain ⟨e3, t3, c1, c2, c3, c4⟩ := db_mul (e := 1048) (t := 3549464052629504) (by omega) (by omega) (by omega) (show 1000 ≤ e1 by omega) (by omega) a3
  obtain ⟨e4, t4, d1, d2, d3, d4⟩ := db_div (show 1000 ≤ e3 by omega) (by omega) c3 (show 1000 ≤ e2 by omega) (by omega) b3
  unfold d_mean
  rw [a4, b4, k, c4, d4]
  exact ⟨n64_db (by omega) c3, e4, t4, d1, d2, d3, rfl⟩
