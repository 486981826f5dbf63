/-! ===== rows in another order ===== -/
theorem t_lo_cl {M : Nat → Nat} {v : Nat} : ∀ k, t_lo M v k = (cl M k).countP (fun r => decide (r.1 < v))
  | 0 => rfl
  | k + 1 => by
    rw [cl_s, List.countP_append, ← t_lo_cl k]
    show t_lo M v k + (if M (3 * k) < v then 1 else 0) = _
    rw [List.countP_cons, List.countP_nil]
    by_cases z : M (3 * k) < v
    · rw [if_pos z, if_pos (decide_eq_true z)]
    · rw [if_neg z, if_neg (by rw [decide_eq_true_eq]; exact z)]
theorem pm_lo {M F : Nat → Nat} {m v : Nat} (h : (cl M m).Perm (cl F m)) : t_lo M v m = t_lo F v m := by
  rw [t_lo_cl, t_lo_cl, h.countP_eq]
theorem lo_ok {F : Nat → Nat} {m j : Nat} (h : okM F m) (hj : j < m) : ∀ k, k ≤ m → t_lo F (F (3 * j)) k = min k j
  | 0, _ => by show 0 = _; omega
  | k + 1, hk => by
    show t_lo F (F (3 * j)) k + (if F (3 * k) < F (3 * j) then 1 else 0) = _
    rw [lo_ok h hj k (by omega)]
    by_cases z : k < j
    · rw [if_pos (okM_lt h z hj)]
      omega
    · rw [if_neg (by have := okM_le h (i := j) (j := k) (by omega) (by omega); omega)]
      omega
theorem lo_self {F : Nat → Nat} {m j : Nat} (h : okM F m) (hj : j < m) : t_lo F (F (3 * j)) m = j := by
  rw [lo_ok h hj m (Nat.le_refl m)]
  omega
theorem pm_num {M F : Nat → Nat} {m i q : Nat} (h : (cl M m).Perm (cl F m)) (hF : okM F m) (hi : i < m) (hq : t_lo M (M (3 * i)) m = q) : q < m ∧ M (3 * i) = F (3 * q) ∧ M (3 * i + 1) = F (3 * q + 1) ∧ M (3 * i + 2) = F (3 * q + 2) := by
  obtain ⟨j, hj, r0, r1, r2⟩ := pm_row h hi
  rw [pm_lo h, r0, lo_self hF hj] at hq
  subst hq
  exact ⟨hj, r0, r1, r2⟩
theorem pm_ex {M F : Nat → Nat} {m q : Nat} (h : (cl M m).Perm (cl F m)) (hF : okM F m) (hq : q < m) : ∃ i, i < m ∧ t_lo M (M (3 * i)) m = q := by
  obtain ⟨i, hi, r0, -⟩ := pm_row h.symm hq
  refine ⟨i, hi, ?_⟩
  rw [pm_lo h, ← r0, lo_self hF hq]
/-! lists -/
theorem set_perm {α : Type} {y : α} : ∀ (l : List α) (i : Nat), i < l.length → (l.set i y).Perm (y :: l.eraseIdx i)
  | [], i, h => absurd h (Nat.not_lt_zero i)
  | a :: l, 0, _ => List.Perm.refl _
  | a :: l, i + 1, h => ((set_perm l i (Nat.lt_of_succ_lt_succ h)).cons a).trans (List.Perm.swap y a _)
theorem get_perm {α : Type} {x : α} : ∀ (l : List α) (i : Nat), l[i]? = some x → l.Perm (x :: l.eraseIdx i)
  | [], i, h => by cases h
  | a :: l, 0, h => by
    cases h
    exact List.Perm.refl _
  | a :: l, i + 1, h => ((get_perm l i h).cons a).trans (List.Perm.swap x a _)
theorem set2_perm {α : Type} {x y : α} {l1 l2 : List α} {i j : Nat} (h : l1.Perm l2) (h1 : l1[i]? = some x) (h2 : l2[j]? = some x) : (l1.set i y).Perm (l2.set j y) := by
  have i1 := (List.getElem?_eq_some_iff.mp h1).1
  have i2 := (List.getElem?_eq_some_iff.mp h2).1
  have e := ((get_perm l1 i h1).symm.trans (h.trans (get_perm l2 j h2))).cons_inv
  exact (set_perm l1 i i1).trans ((e.cons y).trans (set_perm l2 j i2).symm)
theorem cl_row {C : Nat → Nat} {k i : Nat} (h : i < k) : (cl C k)[i]? = some (C (3 * i), C (3 * i + 1), C (3 * i + 2)) := by rw [cl_get, if_pos h]
theorem cl_set {C : Nat → Nat} {k i a b c : Nat} (h : i < k) : cl (put3 C (3 * i) a b c) k = (cl C k).set i (a, b, c) := by
  apply List.ext_getElem?
  intro j
  rw [cl_get, List.getElem?_set, cl_len, cl_get]
  unfold put3
  by_cases z : i = j
  · subst z
    rw [if_pos h, if_pos rfl, if_pos h, b_us, b_un (k := 3 * i + 2) (j := 3 * i + 1) (by omega), b_us, b_un (k := 3 * i + 2) (j := 3 * i) (by omega), b_un (k := 3 * i + 1) (j := 3 * i) (by omega), b_us]
  · rw [if_neg z]
    by_cases y : j < k
    · rw [if_pos y, if_pos y]
      rw [b_un (by omega), b_un (by omega), b_un (by omega), b_un (by omega), b_un (by omega), b_un (by omega), b_un (by omega), b_un (by omega), b_un (by omega)]
    · rw [if_neg y, if_neg y]
theorem cl_add {C : Nat → Nat} {k a b c : Nat} : cl (put3 C (3 * k) a b c) (k + 1) = cl C k ++ [(a, b, c)] := by
  rw [cl_s, cl_of (C := put3 C (3 * k) a b c) (D := C) (fun j hj => by unfold put3; rw [b_un (by omega), b_un (by omega), b_un (by omega)])]
  unfold put3
  rw [b_us, b_un (k := 3 * k + 2) (j := 3 * k + 1) (by omega), b_us, b_un (k := 3 * k + 2) (j := 3 * k) (by omega), b_un (k := 3 * k + 1) (j := 3 * k) (by omega), b_us]
/-! marks set -/
theorem s_is_1 {F : Nat → Nat} {k i b : Nat} : s_is F k i b = 1 ↔ i < k ∧ F (3 * i) = b := by
  unfold s_is
  by_cases z : i < k ∧ F (3 * i) = b
  · rw [if_pos z]
    exact ⟨fun _ => z, fun _ => rfl⟩
  · rw [if_neg z]
    exact ⟨fun h => by omega, fun h => absurd h z⟩
theorem pm_put_is {M F : Nat → Nat} {m i b v w : Nat} (h : (cl M m).Perm (cl F m)) (hF : okM F m) (hi : i < m) (hb : M (3 * i) = b) : s_putk F m b = m ∧ (cl (put3 M (3 * i) b v w) m).Perm (cl (s_put F m b v w) m) := by
  obtain ⟨j, hj, r0, r1, r2⟩ := pm_row h hi
  have sp := s_pl_spec (F := F) (b := b) (n := m) (i := 0)
  have le := s_pl_le (F := F) (b := b) (n := m) (i := 0)
  rw [Nat.zero_add] at sp le
  have jp : s_pl F b m 0 = j := by
    by_cases z : j < s_pl F b m 0
    · have := sp.1 j (Nat.zero_le j) z
      omega
    · by_cases y : s_pl F b m 0 = j
      · exact y
      · have a := sp.2 (by omega)
        have c := okM_lt hF (i := s_pl F b m 0) (j := j) (by omega) hj
        omega
  have is1 : s_is F m (s_pl F b m 0) b = 1 := by
    rw [jp]
    exact s_is_1.mpr ⟨hj, by rw [← r0]; exact hb⟩
  refine ⟨if_pos is1, ?_⟩
  obtain ⟨a0, a1, a2⟩ := s_put_at (F := F) (k := m) (b := b) (v := v) (q := w)
  have e : cl (s_put F m b v w) m = (cl F m).set j (b, v, w) := by
    rw [← cl_set hj]
    apply cl_of
    intro x hx
    unfold put3
    by_cases z : x < 3 * j ∨ 3 * j + 3 ≤ x
    · rw [s_put_is (by rw [jp]; exact z) is1, b_un (by omega), b_un (by omega), b_un (by omega)]
    · have y : x = 3 * j ∨ x = 3 * j + 1 ∨ x = 3 * j + 2 := by omega
      rw [jp] at a0 a1 a2
      rcases y with rfl | rfl | rfl
      · rw [a0, b_un (by omega), b_un (by omega), b_us]
      · rw [a1, b_un (by omega), b_us]
      · rw [a2, b_us]
  rw [e, cl_set hi]
  refine set2_perm h (cl_row hi) ?_
  rw [cl_row hj, r0, r1, r2]
theorem pm_put_no {M F : Nat → Nat} {m b v w : Nat} (h : (cl M m).Perm (cl F m)) (hb : ∀ i, i < m → M (3 * i) ≠ b) : s_putk F m b = m + 1 ∧ (cl (put3 M (3 * m) b v w) (m + 1)).Perm (cl (s_put F m b v w) (m + 1)) := by
  have le := s_pl_le (F := F) (b := b) (n := m) (i := 0)
  rw [Nat.zero_add] at le
  have is0 : ¬ s_is F m (s_pl F b m 0) b = 1 := fun z => by
    obtain ⟨z1, z2⟩ := s_is_1.mp z
    obtain ⟨i, hi, r0, -⟩ := pm_row h.symm z1
    exact hb i hi (by rw [← r0]; exact z2)
  refine ⟨if_neg is0, ?_⟩
  obtain ⟨a0, a1, a2⟩ := s_put_at (F := F) (k := m) (b := b) (v := v) (q := w)
  have g : (cl (s_put F m b v w) (m + 1))[s_pl F b m 0]? = some (b, v, w) := by rw [cl_row (by omega), a0, a1, a2]
  have e : (cl (s_put F m b v w) (m + 1)).eraseIdx (s_pl F b m 0) = cl F m := by
    apply List.ext_getElem?
    intro j
    rw [List.getElem?_eraseIdx, cl_get, cl_get, cl_get]
    by_cases z : j < s_pl F b m 0
    · rw [if_pos z, if_pos (by omega), if_pos (by omega), s_put_lo (by omega) is0, s_put_lo (by omega) is0, s_put_lo (by omega) is0]
    · rw [if_neg z]
      by_cases y : j < m
      · rw [if_pos (by omega), if_pos y, s_put_hi (by omega) (by omega) is0, s_put_hi (by omega) (by omega) is0, s_put_hi (by omega) (by omega) is0]
        rw [show 3 * (j + 1) - 3 = 3 * j by omega, show 3 * (j + 1) + 1 - 3 = 3 * j + 1 by omega, show 3 * (j + 1) + 2 - 3 = 3 * j + 2 by omega]
      · rw [if_neg (by omega), if_neg y]
  have p := get_perm _ _ g
  rw [e] at p
  rw [cl_add]
  exact List.perm_append_comm.trans ((h.cons (b, v, w)).trans p.symm)
/-! marks removed -/
theorem pm_drop {M F : Nat → Nat} {m i q : Nat} (h : (cl M (m + 1)).Perm (cl F (m + 1))) (hi : i < m + 1) (hq : q < m + 1) (r0 : M (3 * i) = F (3 * q)) (r1 : M (3 * i + 1) = F (3 * q + 1)) (r2 : M (3 * i + 2) = F (3 * q + 2)) : (cl (put3 M (3 * i) (M (3 * m)) (M (3 * m + 1)) (M (3 * m + 2))) m).Perm (cl (ncp F F ((q + 1) * 3) (q * 3) ((m + 1 - 1 - q) * 3)) (m + 1 - 1)) := by
  rw [cl_drop hq]
  have g := get_perm _ _ (cl_row (C := F) hq)
  rw [← r0, ← r1, ← r2] at g
  have p := h.trans g
  rw [cl_s] at p
  by_cases z : i = m
  · subst z
    rw [cl_of (C := put3 M (3 * i) (M (3 * i)) (M (3 * i + 1)) (M (3 * i + 2))) (D := M) (fun j hj => by unfold put3; rw [b_un (by omega), b_un (by omega), b_un (by omega)])]
    exact ((List.perm_append_comm (l₁ := [(M (3 * i), M (3 * i + 1), M (3 * i + 2))])).trans p).cons_inv
  · have hi2 : i < m := by omega
    rw [cl_set hi2]
    have s := set_perm (y := (M (3 * m), M (3 * m + 1), M (3 * m + 2))) (cl M m) i (by rw [cl_len]; exact hi2)
    have t := get_perm _ _ (cl_row (C := M) hi2)
    have u : ((M (3 * i), M (3 * i + 1), M (3 * i + 2)) :: (cl M m).set i (M (3 * m), M (3 * m + 1), M (3 * m + 2))).Perm (cl M m ++ [(M (3 * m), M (3 * m + 1), M (3 * m + 2))]) :=
      (s.cons _).trans ((List.Perm.swap _ _ _).trans ((t.symm.cons _).trans (List.perm_append_comm (l₁ := [(M (3 * m), M (3 * m + 1), M (3 * m + 2))]))))
    exact (u.trans p).cons_inv
/-! sums -/
theorem s_sum_add {f : Nat → Nat} {a : Nat} : ∀ k, s_sum f (a + k) = s_sum f a + s_sum (fun p => f (a + p)) k
  | 0 => rfl
  | k + 1 => by
    show s_sum f (a + k) + f (a + k) = s_sum f a + (s_sum (fun p => f (a + p)) k + f (a + k))
    rw [s_sum_add k, Nat.add_assoc]
theorem s_sum_bars {B f h : Nat → Nat} : ∀ b, (∀ i, i < b → s_sum (fun p => f (s_fb B i + p)) (B (5 * i)) = h i) → s_sum f (s_fb B b) = s_sum h b
  | 0, _ => rfl
  | b + 1, k => by
    show s_sum f (s_fb B b + B (5 * b)) = s_sum h b + h b
    rw [s_sum_add, s_sum_bars b (fun i hi => k i (by omega)), k b (by omega)]
theorem s_sum_const {c : Nat} : ∀ k, s_sum (fun _ => c) k = k * c
  | 0 => by rw [Nat.zero_mul]; rfl
  | k + 1 => by
    show s_sum (fun _ => c) k + c = _
    rw [s_sum_const k, Nat.succ_mul]
theorem s_sum_tel {f : Nat → Nat} (h : ∀ p, f p ≤ f (p + 1)) : ∀ k, f 0 + s_sum (fun p => f (p + 1) - f p) k = f k
  | 0 => rfl
  | k + 1 => by
    show f 0 + (s_sum (fun p => f (p + 1) - f p) k + (f (k + 1) - f k)) = _
    have := s_sum_tel h k
    have := h k
    omega
theorem bo_in {B : Nat → Nat} {b i p : Nat} (hi : i < b) (hp : p < B (5 * i)) : s_bo B b (s_fb B i + p) = i := s_bo_eq hi (Nat.le_add_right _ _) (by show s_fb B i + p < s_fb B i + B (5 * i); omega)
theorem s_clicks {B : Nat → Nat} {b : Nat} : s_sum (fun x => B (5 * s_bo B b x + 1)) (s_fb B b) = s_sum (fun i => B (5 * i) * B (5 * i + 1)) b := by
  refine s_sum_bars b (fun i hi => ?_)
  rw [s_sum_eq (h := fun _ => B (5 * i + 1)) (fun p hp => by show B (5 * s_bo B b (s_fb B i + p) + 1) = _; rw [bo_in hi hp]), s_sum_const]
/-- a beat's length, if it is in a rubber bar (y = 1), or in none (y = 0) -/
def s_r2 (P : pv) (y x : Nat) : Nat := if (if P.2.2.2.1 (5 * s_bo P.2.2.2.1 P.1 x + 2) = 0 then 0 else 1) = y then s_ln P.2.2.2.1 P.2.2.2.2.1 P.2.1 P.1 x else 0
theorem s_rubs {P : pv} {y : Nat} : s_sum (s_r2 P y) (s_fb P.2.2.2.1 P.1) = s_sum (s_rl P y) P.1 := by
  refine s_sum_bars P.1 (fun i hi => ?_)
  unfold s_rl
  by_cases z : (if P.2.2.2.1 (5 * i + 2) = 0 then 0 else 1) = y
  · rw [if_pos z]
    have t := s_sum_tel (f := fun p => s_ib P.2.2.2.1 P.2.2.2.2.1 P.2.1 i p) (fun p => s_ib_mono (by omega)) (P.2.2.2.1 (5 * i))
    have e0 : s_ib P.2.2.2.1 P.2.2.2.2.1 P.2.1 i 0 = 0 := s_ib_0
    rw [s_sum_eq (h := fun p => s_ib P.2.2.2.1 P.2.2.2.2.1 P.2.1 i (p + 1) - s_ib P.2.2.2.1 P.2.2.2.2.1 P.2.1 i p) (fun p hp => by
      show s_r2 P y (s_fb P.2.2.2.1 i + p) = _
      unfold s_r2 s_ln
      rw [bo_in hi hp, if_pos z, Nat.add_sub_cancel_left])]
    omega
  · rw [if_neg z]
    rw [s_sum_eq (h := fun _ => 0) (fun p hp => by
      show s_r2 P y (s_fb P.2.2.2.1 i + p) = _
      unfold s_r2
      rw [bo_in hi hp, if_neg z]), s_sum_const, Nat.mul_zero]
/-! no beat is of length 0 -/
theorem s_ln_pos {P : pv} (hP : okP P) {x : Nat} (hx : x < s_fb P.2.2.2.1 P.1) : 0 < s_ln P.2.2.2.1 P.2.2.2.2.1 P.2.1 P.1 x := by
  obtain ⟨q1, q2, q3, q4⟩ := s_bo_fb hP.1 hx
  have b0 := hP.1.2 _ q1
  unfold s_ln s_ib
  generalize s_bo P.2.2.2.1 P.1 x = i at *
  generalize x - s_fb P.2.2.2.1 i = p at *
  have n1 := (s_nat_rg (i := s_fb P.2.2.2.1 i + p) hP.2.1).1
  have n2 : s_ns P.2.2.2.2.1 P.2.1 (s_fb P.2.2.2.1 i) (p + 1) = s_ns P.2.2.2.2.1 P.2.1 (s_fb P.2.2.2.1 i) p + s_nat P.2.2.2.2.1 P.2.1 (s_fb P.2.2.2.1 i + p) := rfl
  have n3 := s_ns_rg (a := s_fb P.2.2.2.1 i) hP.2.1 (P.2.2.2.1 (5 * i))
  rw [n2]
  generalize s_ns P.2.2.2.2.1 P.2.1 (s_fb P.2.2.2.1 i) p = u at *
  generalize s_nat P.2.2.2.2.1 P.2.1 (s_fb P.2.2.2.1 i + p) = v at *
  generalize s_ns P.2.2.2.2.1 P.2.1 (s_fb P.2.2.2.1 i) (P.2.2.2.1 (5 * i)) = N at *
  by_cases z : P.2.2.2.1 (5 * i + 2) = 0
  · rw [if_pos z, if_pos z]
    omega
  · rw [if_neg z, if_neg z, Nat.mul_add]
    have a : 100000 * 150000 ≤ 1000 * P.2.2.2.1 (5 * i + 2) * v := Nat.mul_le_mul (by omega) n1
    generalize 1000 * P.2.2.2.1 (5 * i + 2) * v = w at *
    generalize 1000 * P.2.2.2.1 (5 * i + 2) * u = y at *
    have b : (y + N) / N = y / N + 1 := Nat.add_div_right y (by omega)
    have c : (y + N) / N ≤ (y + w) / N := Nat.div_le_div_right (by omega)
    omega
/-- the beat of a time, as the law seeks it -/
theorem s_ba_last {P : pv} (hP : okP P) {t : Nat} (hb : 0 < P.1) : s_ba P t (s_fb P.2.2.2.1 P.1 - 1) 0 < s_fb P.2.2.2.1 P.1 ∧ s_bg P.2.2.2.1 P.2.2.2.2.1 P.2.1 P.1 (s_ba P t (s_fb P.2.2.2.1 P.1 - 1) 0) ≤ t ∧ ∀ x, s_ba P t (s_fb P.2.2.2.1 P.1 - 1) 0 < x → x < s_fb P.2.2.2.1 P.1 → t < s_bg P.2.2.2.1 P.2.2.2.2.1 P.2.1 P.1 x := by
  have f1 : 1 ≤ s_fb P.2.2.2.1 P.1 := by
    have m := s_fb_mono (B := P.2.2.2.1) (show 1 ≤ P.1 by omega)
    have e : s_fb P.2.2.2.1 1 = 0 + P.2.2.2.1 (5 * 0) := rfl
    have := (hP.1.2 0 hb).1
    omega
  obtain ⟨a1, a2, a3, a4⟩ := s_ba_spec (P := P) (t := t) (N := s_fb P.2.2.2.1 P.1) (k := s_fb P.2.2.2.1 P.1 - 1) (j := 0) (by rw [s_bg_0 hP hb]; exact Nat.zero_le t) (by omega)
  refine ⟨a2, a3, fun x h1 h2 => ?_⟩
  have m := s_bg_mono (M := P.2.2.2.2.1) (m := P.2.1) hP.1 (i := s_ba P t (s_fb P.2.2.2.1 P.1 - 1) 0 + 1) (j := x) (by omega) h2
  have := a4 (by omega)
  omega
