/-! ===== texts ===== -/
/-- a reader's fields: characters taken, complete, property, number -/
def rdO (r tk cm w x : Nat) : Option ab_C := some (.inr (6, [.ref (r + 1), .int (nI tk), .int (nI cm), .int (nI w), .int (nI x)]))
def rdw (σ : ab_S) (r tk cm w x k : Nat) (f : Nat → Nat) : ab_S := tnw (ab_up σ r (rdO r tk cm w x)) (r + 1) 31 5 k f
section
variable {σ : ab_S} {r tk cm w x k : Nat} {f : Nat → Nat}
theorem rdw_r : rdw σ r tk cm w x k f r = some (.inr (6, [.ref (r + 1), .int (nI tk), .int (nI cm), .int (nI w), .int (nI x)])) := by
  unfold rdw
  rw [tnw_ne (by omega) (by omega), b_us]
  rfl
theorem rdw_tn : tn (rdw σ r tk cm w x k f) (r + 1) 31 5 k f := tnw_tn
theorem rdw_t : rdw σ r tk cm w x k f (r + 1) = some (.inr (3, [.int (nI 31), .int (nI 5), .ref (r + 1 + 1), .int (nI k)])) := tn_hd rdw_tn
theorem rdw_ne {i : Nat} (h : i < r ∨ r + 3 ≤ i) : rdw σ r tk cm w x k f i = σ i := by
  unfold rdw
  rw [tnw_ne (by omega) (by omega), b_un (by omega)]
theorem rdw_up {tk' cm' w' x' : Nat} : ab_up (rdw σ r tk cm w x k f) r (some (.inr (6, [.ref (r + 1), .int (nI tk'), .int (nI cm'), .int (nI w'), .int (nI x')]))) = rdw σ r tk' cm' w' x' k f := by
  unfold rdw tnw tbw
  rw [b_uc (k := r + 1) (j := r) (by omega), b_uc (k := r + 1 + 1) (j := r) (by omega), b_uu]
  rfl
theorem rdw_w {k' : Nat} {f' : Nat → Nat} : tnw (rdw σ r tk cm w x k f) (r + 1) 31 5 k' f' = rdw σ r tk cm w x k' f' := tnw_w
theorem rdw_k {k' : Nat} : ab_up (rdw σ r tk cm w x k f) (r + 1) (some (.inr (3, [.int (nI 31), .int (nI 5), .ref (r + 1 + 1), .int (nI k')]))) = rdw σ r tk cm w x k' f := by
  rw [tn_fewer (k' := k') rdw_tn, rdw_w]
theorem rdw_self (h : σ r = rdO r tk cm w x) (h2 : tn σ (r + 1) 31 5 k f) : rdw σ r tk cm w x k f = σ := by
  unfold rdw
  rw [b_ui h, tnw_self h2]
end
def t_least (w : Nat) : Nat := if w = 2 then 100 else 1
def t_most (w : Nat) : Nat := if w = 0 then 12 else if w = 1 then 8 else if w = 2 then 60000 else 20000
theorem t_least_is {w : Nat} : (ab_least w).toInt32 = nI (t_least w) := by
  unfold ab_least t_least
  split <;> rfl
theorem t_most_is {w : Nat} (h : w ≤ 3) : (ab_most w).toInt32 = nI (t_most w) := by
  unfold ab_most t_most
  by_cases h0 : w = 0
  · rw [if_pos h0, if_pos h0]; rfl
  · by_cases h1 : w = 1
    · rw [if_neg h0, if_neg h0, if_pos h1, if_pos h1]; rfl
    · by_cases h2 : w = 2
      · rw [if_neg h0, if_neg h0, if_neg h1, if_neg h1, if_pos h2, if_pos h2]; rfl
      · rw [if_neg h0, if_neg h0, if_neg h1, if_neg h1, if_neg h2, if_neg h2, if_pos (by omega)]; rfl
theorem t_most_le {w : Nat} : t_most w ≤ 60000 := by
  unfold t_most
  split
  · omega
  · split
    · omega
    · split <;> omega
theorem t_least_le {w : Nat} : 1 ≤ t_least w ∧ t_least w ≤ 100 := by
  unfold t_least
  split <;> omega
def t_next (c : Nat) : Nat := if c = 100 then 1 else if c = 114 then 2 else if c = 112 then 3 else 0
/-- property, number, bars ahead, rows -/
abbrev tT : Type := Nat × Nat × Nat × (Nat → Nat)
def t_take (c : Nat) (T : tT) : Option tT :=
  if 48 ≤ c ∧ c ≤ 57 then
    if T.2.1 * 10 + (c - 48) = 0 ∨ t_most T.1 < T.2.1 * 10 + (c - 48) then none
    else some (T.1, T.2.1 * 10 + (c - 48), T.2.2.1, ab_up T.2.2.2 (T.2.2.1 * 5 + T.1) (T.2.1 * 10 + (c - 48)))
  else if T.2.1 < t_least T.1 then none
  else if c = 59 then some (0, 0, T.2.2.1 + 1, put5 T.2.2.2 (5 * (T.2.2.1 + 1)) 0 1 0 0 1)
  else if t_next c ≤ T.1 then none
  else some (t_next c, 0, T.2.2.1, T.2.2.2)
def t_go (a : Nat → Nat) : Nat → Nat → tT → Nat × tT
  | 0, i, T => (i, T)
  | m + 1, i, T => match t_take (a i) T with
    | none => (i, T)
    | some U => t_go a m (i + 1) U
/-- a row of a text -/
def okR (f : Nat → Nat) (j : Nat) : Prop := 1 ≤ f (5 * j) ∧ f (5 * j) ≤ 12 ∧ 1 ≤ f (5 * j + 1) ∧ f (5 * j + 1) ≤ 8 ∧ (f (5 * j + 2) = 0 ∨ 100 ≤ f (5 * j + 2) ∧ f (5 * j + 2) ≤ 60000) ∧ f (5 * j + 3) ≤ 20000 ∧ f (5 * j + 4) = 1
def okT (T : tT) (i : Nat) : Prop := T.1 ≤ 3 ∧ T.2.1 ≤ t_most T.1 ∧ 2 * T.2.2.1 ≤ i ∧ (T.1 ≠ 0 ∨ T.2.1 ≠ 0 → 2 * T.2.2.1 + 1 ≤ i) ∧ (∀ j, j < T.2.2.1 → okR T.2.2.2 j) ∧ T.2.2.2 (5 * T.2.2.1 + 4) = 1 ∧ T.2.2.2 (5 * T.2.2.1 + 3) ≤ 20000 ∧ (T.1 = 0 → T.2.2.2 (5 * T.2.2.1) = T.2.1) ∧ (T.1 ≠ 0 → 1 ≤ T.2.2.2 (5 * T.2.2.1) ∧ T.2.2.2 (5 * T.2.2.1) ≤ 12) ∧ (1 ≤ T.2.2.2 (5 * T.2.2.1 + 1) ∧ T.2.2.2 (5 * T.2.2.1 + 1) ≤ 8) ∧ (T.1 ≠ 2 → T.2.2.2 (5 * T.2.2.1 + 2) = 0 ∨ 100 ≤ T.2.2.2 (5 * T.2.2.1 + 2) ∧ T.2.2.2 (5 * T.2.2.1 + 2) ≤ 60000) ∧ (T.1 = 2 → T.2.2.2 (5 * T.2.2.1 + 2) = T.2.1) ∧ (T.1 < 2 → T.2.2.2 (5 * T.2.2.1 + 2) = 0)
theorem okT_whole {T : tT} {i : Nat} (h : okT T i) (h2 : t_least T.1 ≤ T.2.1) : ∀ j, j < T.2.2.1 + 1 → okR T.2.2.2 j := by
  intro j hj
  obtain ⟨w, x, k, f⟩ := T
  obtain ⟨a1, a2, a3, a4, a5, a6, a7, a8, a9, a10, a11, a12, a13⟩ := h
  simp only at *
  by_cases z : j < k
  · exact a5 j z
  · have e : j = k := by omega
    subst e
    unfold t_most at a2
    unfold t_least at h2
    unfold okR
    by_cases w0 : w = 0
    · have b8 := a8 w0
      have b11 := a11 (by omega)
      rw [if_pos w0] at a2
      rw [if_neg (by omega)] at h2
      refine ⟨by omega, by omega, a10.1, a10.2, b11, a7, a6⟩
    · have b9 := a9 w0
      by_cases w2 : w = 2
      · have b12 := a12 w2
        rw [if_neg (by omega), if_neg (by omega), if_pos w2] at a2
        rw [if_pos w2] at h2
        refine ⟨by omega, by omega, a10.1, a10.2, by omega, a7, a6⟩
      · have b11 := a11 w2
        refine ⟨by omega, by omega, a10.1, a10.2, b11, a7, a6⟩
theorem okT_take {T U : tT} {i c : Nat} (h : okT T i) (ht : t_take c T = some U) : okT U (i + 1) := by
  have wh := okT_whole h
  obtain ⟨w, x, k, f⟩ := T
  obtain ⟨a1, a2, a3, a4, a5, a6, a7, a8, a9, a10, a11, a12, a13⟩ := h
  simp only at *
  unfold t_take at ht
  by_cases z : 48 ≤ c ∧ c ≤ 57
  · rw [if_pos z] at ht
    by_cases y : x * 10 + (c - 48) = 0 ∨ t_most w < x * 10 + (c - 48)
    · rw [if_pos y] at ht
      cases ht
    · rw [if_neg y] at ht
      cases ht
      have y1 : x * 10 + (c - 48) ≤ t_most w := by omega
      have y0 : 1 ≤ x * 10 + (c - 48) := by omega
      generalize x * 10 + (c - 48) = n at *
      have m1 : w = 1 → n ≤ 8 := fun e => by unfold t_most at y1; rw [if_neg (by omega), if_pos e] at y1; exact y1
      have m3 : w = 3 → n ≤ 20000 := fun e => by unfold t_most at y1; rw [if_neg (by omega), if_neg (by omega), if_neg (by omega)] at y1; exact y1
      have e4 : ab_up f (k * 5 + w) n (5 * k + 4) = f (5 * k + 4) := b_un (by omega)
      refine ⟨a1, y1, by show 2 * k ≤ i + 1; omega, fun _ => by show 2 * k + 1 ≤ i + 1; omega, fun j hj => ?_, by rw [← a6]; exact e4, ?_, fun e => ?_, fun e => ?_, ?_, fun e => ?_, fun e => ?_, fun e => ?_⟩
      · have r := a5 j hj
        have hj : j < k := hj
        unfold okR at r ⊢
        simp only
        rw [b_un (by omega), b_un (by omega), b_un (by omega), b_un (by omega), b_un (by omega)]
        exact r
      · show ab_up f (k * 5 + w) n (5 * k + 3) ≤ 20000
        by_cases e : w = 3
        · rw [show k * 5 + w = 5 * k + 3 by omega, b_us]
          exact m3 e
        · rw [b_un (by omega)]
          exact a7
      · have e : w = 0 := e
        show ab_up f (k * 5 + w) n (5 * k) = n
        rw [show k * 5 + w = 5 * k by omega, b_us]
      · have e : w ≠ 0 := e
        show 1 ≤ ab_up f (k * 5 + w) n (5 * k) ∧ ab_up f (k * 5 + w) n (5 * k) ≤ 12
        rw [b_un (by omega)]
        exact a9 e
      · show 1 ≤ ab_up f (k * 5 + w) n (5 * k + 1) ∧ ab_up f (k * 5 + w) n (5 * k + 1) ≤ 8
        by_cases e : w = 1
        · rw [show k * 5 + w = 5 * k + 1 by omega, b_us]
          exact ⟨y0, m1 e⟩
        · rw [b_un (by omega)]
          exact a10
      · have e : w ≠ 2 := e
        show ab_up f (k * 5 + w) n (5 * k + 2) = 0 ∨ 100 ≤ ab_up f (k * 5 + w) n (5 * k + 2) ∧ ab_up f (k * 5 + w) n (5 * k + 2) ≤ 60000
        rw [b_un (by omega)]
        exact a11 e
      · have e : w = 2 := e
        show ab_up f (k * 5 + w) n (5 * k + 2) = n
        rw [show k * 5 + w = 5 * k + 2 by omega, b_us]
      · have e : w < 2 := e
        show ab_up f (k * 5 + w) n (5 * k + 2) = 0
        rw [b_un (by omega)]
        exact a13 e
  · rw [if_neg z] at ht
    by_cases y : x < t_least w
    · rw [if_pos y] at ht
      cases ht
    · rw [if_neg y] at ht
      have wh := wh (by omega)
      have l1 := (t_least_le (w := w)).1
      have a4 := a4 (by omega)
      have wk := wh k (by omega)
      by_cases v : c = 59
      · rw [if_pos v] at ht
        cases ht
        have p0 : put5 f (5 * (k + 1)) 0 1 0 0 1 (5 * (k + 1)) = 0 := by unfold put5; rw [b_un (by omega), b_un (by omega), b_un (by omega), b_un (by omega), b_us]
        have p1 : put5 f (5 * (k + 1)) 0 1 0 0 1 (5 * (k + 1) + 1) = 1 := by unfold put5; rw [b_un (by omega), b_un (by omega), b_un (by omega), b_us]
        have p2 : put5 f (5 * (k + 1)) 0 1 0 0 1 (5 * (k + 1) + 2) = 0 := by unfold put5; rw [b_un (by omega), b_un (by omega), b_us]
        have p3 : put5 f (5 * (k + 1)) 0 1 0 0 1 (5 * (k + 1) + 3) = 0 := by unfold put5; rw [b_un (by omega), b_us]
        have p4 : put5 f (5 * (k + 1)) 0 1 0 0 1 (5 * (k + 1) + 4) = 1 := by unfold put5; rw [b_us]
        refine ⟨Nat.zero_le _, Nat.zero_le _, by show 2 * (k + 1) ≤ i + 1; omega, fun e => ?_, fun j hj => ?_, p4, by show put5 f (5 * (k + 1)) 0 1 0 0 1 (5 * (k + 1) + 3) ≤ 20000; omega, fun _ => p0, fun e => absurd rfl e, by show 1 ≤ put5 f (5 * (k + 1)) 0 1 0 0 1 (5 * (k + 1) + 1) ∧ put5 f (5 * (k + 1)) 0 1 0 0 1 (5 * (k + 1) + 1) ≤ 8; omega, fun _ => Or.inl p2, fun e => absurd e (show ¬ (0 : Nat) = 2 by decide), fun _ => p2⟩
        · rcases e with e | e <;> exact absurd rfl e
        · have hj : j < k + 1 := hj
          have r := wh j hj
          unfold okR put5 at *
          simp only
          rw [b_un (by omega), b_un (by omega), b_un (by omega), b_un (by omega), b_un (by omega), b_un (by omega), b_un (by omega), b_un (by omega), b_un (by omega), b_un (by omega), b_un (by omega), b_un (by omega), b_un (by omega), b_un (by omega), b_un (by omega), b_un (by omega), b_un (by omega), b_un (by omega), b_un (by omega), b_un (by omega), b_un (by omega), b_un (by omega), b_un (by omega), b_un (by omega), b_un (by omega)]
          exact r
      · rw [if_neg v] at ht
        by_cases u : t_next c ≤ w
        · rw [if_pos u] at ht
          cases ht
        · rw [if_neg u] at ht
          cases ht
          have n3 : t_next c ≤ 3 := by
            unfold t_next
            split
            · omega
            · split
              · omega
              · split <;> omega
          unfold okR at wk
          refine ⟨n3, Nat.zero_le _, by show 2 * k ≤ i + 1; omega, fun _ => by show 2 * k + 1 ≤ i + 1; omega, fun j hj => a5 j hj, a6, a7, fun e => ?_, fun _ => ⟨wk.1, wk.2.1⟩, a10, fun _ => wk.2.2.2.2.1, fun e => ?_, fun e => ?_⟩
          · have e : t_next c = 0 := e
            omega
          · have e : t_next c = 2 := e
            exact a13 (by omega)
          · have e : t_next c < 2 := e
            exact a13 (by omega)
theorem okT_go {a : Nat → Nat} : ∀ {m i : Nat} {T : tT}, okT T i → okT (t_go a m i T).2 (t_go a m i T).1 ∧ i ≤ (t_go a m i T).1 ∧ (t_go a m i T).1 ≤ i + m
  | 0, i, T, h => ⟨h, Nat.le_refl _, Nat.le_refl _⟩
  | m + 1, i, T, h => by
    unfold t_go
    cases e : t_take (a i) T with
    | none => exact ⟨h, Nat.le_refl _, by show i ≤ _; omega⟩
    | some U =>
      have r := okT_go (a := a) (m := m) (okT_take h e)
      exact ⟨r.1, by have := r.2.1; simp only; omega, by have := r.2.2; simp only; omega⟩
def t_start (f : Nat → Nat) : tT := (0, 0, 0, put5 f 0 0 1 0 0 1)
theorem okT_start {f : Nat → Nat} : okT (t_start f) 0 := by
  have p0 : put5 f 0 0 1 0 0 1 0 = 0 := by unfold put5; rw [b_un (by omega), b_un (by omega), b_un (by omega), b_un (by omega), b_us]
  have p1 : put5 f 0 0 1 0 0 1 1 = 1 := by unfold put5; rw [b_un (by omega), b_un (by omega), b_un (by omega)]; exact b_us
  have p2 : put5 f 0 0 1 0 0 1 2 = 0 := by unfold put5; rw [b_un (by omega), b_un (by omega)]; exact b_us
  have p3 : put5 f 0 0 1 0 0 1 3 = 0 := by unfold put5; rw [b_un (by omega)]; exact b_us
  have p4 : put5 f 0 0 1 0 0 1 4 = 1 := by unfold put5; exact b_us
  refine ⟨Nat.zero_le _, Nat.zero_le _, Nat.zero_le _, fun e => ?_, fun j hj => absurd hj (Nat.not_lt_zero _), p4, ?_, fun _ => p0, fun e => absurd rfl e, ?_, fun _ => Or.inl p2, fun e => absurd e (show ¬ (0 : Nat) = 2 by decide), fun _ => p2⟩
  · rcases e with e | e <;> exact absurd rfl e
  · show put5 f 0 0 1 0 0 1 3 ≤ 20000
    omega
  · show 1 ≤ put5 f 0 0 1 0 0 1 1 ∧ put5 f 0 0 1 0 0 1 1 ≤ 8
    omega
section
variable {g : ab_G} {σ : ab_S} {r tk cm w x k : Nat} {f : Nat → Nat}
end
