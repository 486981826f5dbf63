/-! ===== more calls that change the piece ===== -/
theorem s_pl_spec {F : Nat → Nat} {b : Nat} : ∀ {n i : Nat}, (∀ j, i ≤ j → j < s_pl F b n i → F (3 * j) < b) ∧ (s_pl F b n i < i + n → b ≤ F (3 * s_pl F b n i))
  | 0, i => ⟨fun j h1 h2 => by have h2 : j < i := h2; omega, fun h => by have h : i < i + 0 := h; omega⟩
  | n + 1, i => by
    unfold s_pl
    by_cases z : F (3 * i) < b
    · rw [if_pos z]
      have r := s_pl_spec (F := F) (b := b) (n := n) (i := i + 1)
      refine ⟨fun j h1 h2 => ?_, fun h => r.2 (by omega)⟩
      by_cases e : j = i
      · rw [e]; exact z
      · exact r.1 j (by omega) h2
    · rw [if_neg z]
      exact ⟨fun j h1 h2 => by omega, fun _ => by omega⟩
section
variable {F : Nat → Nat} {k b v q : Nat}
theorem s_put_at : s_put F k b v q (3 * s_pl F b k 0) = b ∧ s_put F k b v q (3 * s_pl F b k 0 + 1) = v ∧ s_put F k b v q (3 * s_pl F b k 0 + 2) = q := by
  unfold s_put
  refine ⟨?_, ?_, b_us⟩
  · rw [b_un (by omega), b_un (by omega), b_us]
  · rw [b_un (by omega), b_us]
theorem s_put_ne {j : Nat} (h : j < 3 * s_pl F b k 0 ∨ 3 * s_pl F b k 0 + 3 ≤ j) : s_put F k b v q j = (if s_is F k (s_pl F b k 0) b = 1 then F else ncp F F (3 * s_pl F b k 0) (3 * (s_pl F b k 0 + 1)) (3 * (k - s_pl F b k 0))) j := by
  unfold s_put
  rw [b_un (by omega), b_un (by omega), b_un (by omega)]
theorem s_put_is {j : Nat} (h : j < 3 * s_pl F b k 0 ∨ 3 * s_pl F b k 0 + 3 ≤ j) (hs : s_is F k (s_pl F b k 0) b = 1) : s_put F k b v q j = F j := by
  rw [s_put_ne h, if_pos hs]
theorem s_put_lo {j : Nat} (h : j < 3 * s_pl F b k 0) (hs : ¬ s_is F k (s_pl F b k 0) b = 1) : s_put F k b v q j = F j := by
  rw [s_put_ne (Or.inl h), if_neg hs]
  unfold ncp
  rw [if_neg (by omega)]
theorem s_put_hi {j : Nat} (h : 3 * s_pl F b k 0 + 3 ≤ j) (h2 : j < 3 * (k + 1)) (hs : ¬ s_is F k (s_pl F b k 0) b = 1) : s_put F k b v q j = F (j - 3) := by
  rw [s_put_ne (Or.inr h), if_neg hs]
  unfold ncp
  rw [if_pos (by omega)]
  exact congrArg F (by omega)
theorem okM_put (h : okM F k) (hb : b < 288) (hv : 200 ≤ v ∧ v ≤ 4000) (hq : q ≤ 1) (hk : s_putk F k b ≤ 11) : okM (s_put F k b v q) (s_putk F k b) := by
  have sp := s_pl_spec (F := F) (b := b) (n := k) (i := 0)
  have le := s_pl_le (F := F) (b := b) (n := k) (i := 0)
  obtain ⟨a0, a1, a2⟩ := s_put_at (F := F) (k := k) (b := b) (v := v) (q := q)
  obtain ⟨m1, m2, m3⟩ := h
  rw [Nat.zero_add] at sp le
  by_cases hs : s_is F k (s_pl F b k 0) b = 1
  · have e : s_putk F k b = k := if_pos hs
    have hi : s_pl F b k 0 < k ∧ F (3 * s_pl F b k 0) = b := by
      unfold s_is at hs
      by_cases z : s_pl F b k 0 < k ∧ F (3 * s_pl F b k 0) = b
      · exact z
      · rw [if_neg z] at hs; omega
    rw [e]
    have same : ∀ i, s_put F k b v q (3 * i) = F (3 * i) := fun i => by
      by_cases z : i = s_pl F b k 0
      · rw [z, a0]; exact hi.2.symm
      · exact s_put_is (by omega) hs
    refine ⟨m1, fun i hi2 => ?_, fun i hi2 => by rw [same, same]; exact m3 i hi2⟩
    by_cases z : i = s_pl F b k 0
    · rw [z, a0, a1, a2]
      exact ⟨hb, hv.1, hv.2, hq⟩
    · rw [s_put_is (by omega) hs, s_put_is (by omega) hs, s_put_is (by omega) hs]
      exact m2 i hi2
  · have e : s_putk F k b = k + 1 := if_neg hs
    rw [e] at hk ⊢
    have hi : s_pl F b k 0 < k → b < F (3 * s_pl F b k 0) := fun z => by
      have y := sp.2 z
      by_cases w : F (3 * s_pl F b k 0) = b
      · exact absurd (by unfold s_is; rw [if_pos ⟨z, w⟩]) hs
      · omega
    refine ⟨hk, fun i hi2 => ?_, fun i hi2 => ?_⟩
    · by_cases z : i = s_pl F b k 0
      · rw [z, a0, a1, a2]
        exact ⟨hb, hv.1, hv.2, hq⟩
      · by_cases y : i < s_pl F b k 0
        · rw [s_put_lo (by omega) hs, s_put_lo (by omega) hs, s_put_lo (by omega) hs]
          exact m2 i (by omega)
        · have r := m2 (i - 1) (by omega)
          rw [s_put_hi (by omega) (by omega) hs, s_put_hi (by omega) (by omega) hs, s_put_hi (by omega) (by omega) hs]
          rw [show 3 * i - 3 = 3 * (i - 1) by omega, show 3 * i + 1 - 3 = 3 * (i - 1) + 1 by omega, show 3 * i + 2 - 3 = 3 * (i - 1) + 2 by omega]
          exact r
    · by_cases z : i = s_pl F b k 0
      · rw [z, a0, s_put_hi (by omega) (by omega) hs, show 3 * (s_pl F b k 0 + 1) - 3 = 3 * s_pl F b k 0 by omega]
        exact hi (by omega)
      · by_cases y : i < s_pl F b k 0
        · rw [s_put_lo (j := 3 * i) (by omega) hs]
          by_cases x : i + 1 = s_pl F b k 0
          · rw [x, a0]
            exact sp.1 i (Nat.zero_le _) y
          · rw [s_put_lo (by omega) hs]
            exact m3 i (by omega)
        · rw [s_put_hi (by omega) (by omega) hs, s_put_hi (by omega) (by omega) hs]
          rw [show 3 * i - 3 = 3 * (i - 1) by omega, show 3 * (i + 1) - 3 = 3 * (i - 1 + 1) by omega]
          exact m3 (i - 1) (by omega)
theorem okM_drop {r : Nat} (h : okM F k) (hr : r < k) : okM (ncp F F ((r + 1) * 3) (r * 3) ((k - 1 - r) * 3)) (k - 1) := by
  obtain ⟨m1, m2, m3⟩ := h
  have c : ∀ j x, x < 3 → j < k - 1 → ncp F F ((r + 1) * 3) (r * 3) ((k - 1 - r) * 3) (3 * j + x) = if j < r then F (3 * j + x) else F (3 * (j + 1) + x) := by
    intro j x hx hj
    unfold ncp
    by_cases z : j < r
    · rw [if_neg (by omega), if_pos z]
    · rw [if_pos (by omega), if_neg z]
      exact congrArg F (by omega)
  have c0 : ∀ j, j < k - 1 → ncp F F ((r + 1) * 3) (r * 3) ((k - 1 - r) * 3) (3 * j) = if j < r then F (3 * j) else F (3 * (j + 1)) := fun j hj => c j 0 (by omega) hj
  refine ⟨by omega, fun i hi => ?_, fun i hi => ?_⟩
  · rw [c0 i hi, c i 1 (by omega) hi, c i 2 (by omega) hi]
    by_cases z : i < r
    · rw [if_pos z, if_pos z, if_pos z]
      exact m2 i (by omega)
    · rw [if_neg z, if_neg z, if_neg z]
      exact m2 (i + 1) (by omega)
  · rw [c0 i (by omega), c0 (i + 1) hi]
    by_cases z : i < r
    · rw [if_pos z]
      by_cases y : i + 1 < r
      · rw [if_pos y]
        exact m3 i (by omega)
      · rw [if_neg y]
        have q1 := m3 i (by omega)
        have q2 := m3 (i + 1) (by omega)
        omega
    · rw [if_neg z, if_neg (by omega)]
      exact m3 (i + 1) (by omega)
theorem okB_drop {r : Nat} (h : okB F k) : okB (ncp F F ((r + 1) * 5) (r * 5) ((k - 1 - r) * 5)) (k - 1) := by
  obtain ⟨m1, m2⟩ := h
  have c : ∀ j x, x < 5 → j < k - 1 → ncp F F ((r + 1) * 5) (r * 5) ((k - 1 - r) * 5) (5 * j + x) = if j < r then F (5 * j + x) else F (5 * (j + 1) + x) := by
    intro j x hx hj
    unfold ncp
    by_cases z : j < r
    · rw [if_neg (by omega), if_pos z]
    · rw [if_pos (by omega), if_neg z]
      exact congrArg F (by omega)
  have c0 : ∀ j, j < k - 1 → ncp F F ((r + 1) * 5) (r * 5) ((k - 1 - r) * 5) (5 * j) = if j < r then F (5 * j) else F (5 * (j + 1)) := fun j hj => c j 0 (by omega) hj
  refine ⟨by omega, fun i hi => ?_⟩
  rw [c0 i hi, c i 1 (by omega) hi, c i 2 (by omega) hi, c i 3 (by omega) hi, c i 4 (by omega) hi]
  by_cases z : i < r
  · rw [if_pos z, if_pos z, if_pos z, if_pos z, if_pos z]
    exact m2 i (by omega)
  · rw [if_neg z, if_neg z, if_neg z, if_neg z, if_neg z]
    exact m2 (i + 1) (by omega)
theorem okC_drop {r m : Nat} (h : okC F k m) (hr : r < k) : okC (ncp F F ((r + 1) * 3) (r * 3) ((k - 1 - r) * 3)) (k - 1) m := by
  obtain ⟨m1, m2⟩ := h
  have c : ∀ j x, x < 3 → j < k - 1 → ncp F F ((r + 1) * 3) (r * 3) ((k - 1 - r) * 3) (3 * j + x) = if j < r then F (3 * j + x) else F (3 * (j + 1) + x) := by
    intro j x hx hj
    unfold ncp
    by_cases z : j < r
    · rw [if_neg (by omega), if_pos z]
    · rw [if_pos (by omega), if_neg z]
      exact congrArg F (by omega)
  have c0 : ∀ j, j < k - 1 → ncp F F ((r + 1) * 3) (r * 3) ((k - 1 - r) * 3) (3 * j) = if j < r then F (3 * j) else F (3 * (j + 1)) := fun j hj => c j 0 (by omega) hj
  refine ⟨by omega, fun i hi => ?_⟩
  rw [c0 i hi, c i 1 (by omega) hi, c i 2 (by omega) hi]
  by_cases z : i < r
  · rw [if_pos z, if_pos z, if_pos z]
    exact m2 i (by omega)
  · rw [if_neg z, if_neg z, if_neg z]
    exact m2 (i + 1) (by omega)
end
/-- what the filter leaves keeps the rules -/
theorem s_flt_ok {P : pv} {c' n : Nat} {C' : Nat → Nat} (hC : okC P.2.2.2.2.2 P.2.2.1 n) (f : s_flt P c' C') : okC C' c' (s_fb P.2.2.2.1 P.1) := by
  refine ⟨f.1, fun i hi => ?_⟩
  have g : (C' (3 * i), C' (3 * i + 1), C' (3 * i + 2)) ∈ cl C' c' := by
    unfold cl
    rw [List.mem_map]
    exact ⟨i, List.mem_range.mpr hi, rfl⟩
  rw [f.2, List.mem_filter] at g
  obtain ⟨g1, g2⟩ := g
  have g2 := of_decide_eq_true g2
  unfold cl at g1
  rw [List.mem_map] at g1
  obtain ⟨j, hj, e⟩ := g1
  rw [List.mem_range] at hj
  have r := hC.2 j hj
  have e1 : P.2.2.2.2.2 (3 * j) = C' (3 * i) := congrArg (fun x => x.1) e
  have e2 : P.2.2.2.2.2 (3 * j + 1) = C' (3 * i + 1) := congrArg (fun x => x.2.1) e
  have e3 : P.2.2.2.2.2 (3 * j + 2) = C' (3 * i + 2) := congrArg (fun x => x.2.2) e
  have g2 : C' (3 * i) < s_fb P.2.2.2.1 P.1 := g2
  omega
/-! setBar -/
def t5_most (w : Nat) : Nat := if w = 0 then 12 else if w = 1 then 8 else if w = 2 then 60000 else if w = 3 then 20000 else 4095
theorem a_msw {w : Nat} : (ab_most w).toInt32 = nI (t5_most w) := a_ms
theorem t5_rg {w : Nat} : t_least w ≤ t5_most w ∧ t5_most w ≤ 60000 := by
  unfold t_least t5_most
  by_cases h0 : w = 0
  · rw [if_pos h0, if_neg (by omega)]; omega
  · rw [if_neg h0]
    by_cases h1 : w = 1
    · rw [if_pos h1, if_neg (by omega)]; omega
    · rw [if_neg h1]
      by_cases h2 : w = 2
      · rw [if_pos h2, if_pos h2]; omega
      · rw [if_neg h2, if_neg h2]
        by_cases h3 : w = 3
        · rw [if_pos h3]; omega
        · rw [if_neg h3]; omega
/-- a value that property w may have -/
def vOK (w v : Nat) : Prop := v = 0 ∧ 2 ≤ w ∨ t_least w ≤ v ∧ v ≤ t5_most w
def inV (w : Nat) (x : Int32) : Prop := ∃ v, vOK w v ∧ x = nI v
theorem inV_not {w : Nat} {x : Int32} (h : ¬ inV w x) : (¬ inR x (t_least w) (t5_most w)) ∧ (x ≠ nI 0 ∨ w < 2) := by
  refine ⟨fun ⟨j, h1, h2, e⟩ => h ⟨j, Or.inr ⟨h1, h2⟩, e⟩, ?_⟩
  by_cases z : x = nI 0
  · refine Or.inr ?_
    by_cases y : 2 ≤ w
    · exact absurd ⟨0, Or.inl ⟨rfl, y⟩, z⟩ h
    · omega
  · exact Or.inl z
theorem shl12 {b : Nat} (hb : b ≤ 12) : nI 1 <<< (nI b &&& 31) = nI (2 ^ b) := by
  have : ∀ q, q < 13 → nI 1 <<< (nI q &&& 31) = nI (2 ^ q) := by decide
  exact this b (by omega)
theorem and12 {n b : Nat} (hn : n < 4096) (hb : b ≤ 12) : nI n &&& (nI (2 ^ b) - nI 1) = nI (n % 2 ^ b) := by
  refine pk_andN (by omega) b ?_
  have : ∀ q, q < 13 → (nI (2 ^ q) - nI 1).toBitVec.toNat = 2 ^ q - 1 := by decide
  exact this b (by omega)
/-- the accents that are left -/
def s_dl (B : Nat → Nat) (i : Nat) : Nat → Nat := ab_up B (5 * i + 4) (B (5 * i + 4) % 2 ^ B (5 * i))
def s_sb (B : Nat → Nat) (i w v : Nat) : Nat → Nat := s_dl (ab_up B (5 * i + w) v) i
theorem okB_sb {B : Nat → Nat} {b i w v : Nat} (h : okB B b) (hi : i < b) (hw : w < 5) (hv : vOK w v) : okB (s_sb B i w v) b := by
  refine ⟨h.1, fun j hj => ?_⟩
  have r := h.2 j hj
  by_cases e : j = i
  · subst e
    have lt : ab_up B (5 * j + w) v (5 * j + 4) < 4096 := by
      by_cases z : w = 4
      · rw [z, b_us]
        rw [z] at hv
        rcases hv with hv | hv
        · omega
        · exact Nat.lt_succ_of_le hv.2
      · rw [b_un (by omega)]
        omega
    have c0 : s_sb B j w v (5 * j + 4) = ab_up B (5 * j + w) v (5 * j + 4) % 2 ^ ab_up B (5 * j + w) v (5 * j) := b_us
    have c1 : ∀ x, x < 4 → s_sb B j w v (5 * j + x) = ab_up B (5 * j + w) v (5 * j + x) := fun x hx => b_un (by omega)
    have c2 : s_sb B j w v (5 * j) = ab_up B (5 * j + w) v (5 * j) := b_un (by omega)
    have m : s_sb B j w v (5 * j + 4) < 4096 := by
      rw [c0]
      exact Nat.lt_of_le_of_lt (Nat.mod_le _ _) lt
    rw [c2, c1 1 (by omega), c1 2 (by omega), c1 3 (by omega)]
    have hw5 : w = 0 ∨ w = 1 ∨ w = 2 ∨ w = 3 ∨ w = 4 := by omega
    rcases hw5 with rfl | rfl | rfl | rfl | rfl
    · have hv : 1 ≤ v ∧ v ≤ 12 := by
        rcases hv with hv | hv
        · omega
        · exact hv
      rw [show 5 * j + 0 = 5 * j by omega, b_us, b_un (by omega), b_un (by omega), b_un (by omega)]
      exact ⟨hv.1, hv.2, r.2.2.1, r.2.2.2.1, r.2.2.2.2.1, r.2.2.2.2.2.1, m⟩
    · have hv : 1 ≤ v ∧ v ≤ 8 := by
        rcases hv with hv | hv
        · omega
        · exact hv
      rw [b_us, b_un (by omega), b_un (by omega), b_un (by omega)]
      exact ⟨r.1, r.2.1, hv.1, hv.2, r.2.2.2.2.1, r.2.2.2.2.2.1, m⟩
    · have hv : v = 0 ∨ 100 ≤ v ∧ v ≤ 60000 := by
        rcases hv with hv | hv
        · exact Or.inl hv.1
        · exact Or.inr hv
      rw [b_us, b_un (by omega), b_un (by omega), b_un (by omega)]
      exact ⟨r.1, r.2.1, r.2.2.1, r.2.2.2.1, hv, r.2.2.2.2.2.1, m⟩
    · have hv : v ≤ 20000 := by
        rcases hv with hv | hv
        · omega
        · exact hv.2
      rw [b_us, b_un (by omega), b_un (by omega), b_un (by omega)]
      exact ⟨r.1, r.2.1, r.2.2.1, r.2.2.2.1, r.2.2.2.2.1, hv, m⟩
    · rw [b_un (by omega), b_un (by omega), b_un (by omega), b_un (by omega)]
      exact ⟨r.1, r.2.1, r.2.2.1, r.2.2.2.1, r.2.2.2.2.1, r.2.2.2.2.2.1, m⟩
  · have c : ∀ x, x < 5 → s_sb B i w v (5 * j + x) = B (5 * j + x) := fun x hx => by
      unfold s_sb s_dl
      rw [b_un (by omega), b_un (by omega)]
    have c0 : s_sb B i w v (5 * j) = B (5 * j) := c 0 (by omega)
    rw [c0, c 1 (by omega), c 2 (by omega), c 3 (by omega), c 4 (by omega)]
    exact r
section
variable {g : ab_G} {σ σ' : ab_S} {P : pv} {n : Nat} {H : Nat → pv} {I J : pv} {kp len : Nat} {a : Nat → Nat} {X : Option ab_C}
theorem c_dropLost {i : Nat} (h : cw0 σ P n H I J kp len a X) (hb : P.1 ≤ 24) (hi : i < P.1) (h0 : P.2.2.2.1 (5 * i) ≤ 12) (h4 : P.2.2.2.1 (5 * i + 4) < 4096) : ab_Cl 20 [.ref 3, .int (nI i)] (g, σ) = some (.inl none, (g, tnw σ 6 24 5 P.1 (s_dl P.2.2.2.1 i))) := by
  obtain ⟨h3, -, h5, h6, -, -, -, -⟩ := cw0_hd h
  have c0 := tp_cell (g := g) (i := i) (j := 0) h.2.2.2.1 hi (by omega) hb (by omega) (by omega) (by omega)
  have c4 := tp_cell (g := g) (i := i) (j := 4) h.2.2.2.1 hi (by omega) hb (by omega) (by omega) (by omega)
  have c5 := tp_put (g := g) (i := i) (j := 4) (x := P.2.2.2.1 (5 * i + 4) % 2 ^ P.2.2.2.1 (5 * i)) h.2.2.2.1 hi (by omega) hb (by omega) (by omega) (by omega)
  rw [Nat.mul_comm i 5] at c0 c4 c5
  rw [Nat.add_zero] at c0
  have e1 := shl12 h0
  have e2 := and12 h4 h0
  unfold ab_Cl; simp (disch := first | (simp -implicitDefEqProofs (disch := omega) only [*, b_isI, b_isR, b_isL, b_isD, b_gv, b_gi, b_nn, b_l1, b_l2, b_e0, b_ei, b_er, b_el, b_ed, b_w80, b_w8_0, b_w8_1, b_w8_2, b_w8_3, b_w8_4, b_w8_5, b_w8_6, b_w8_7, b_w8_8, b_w8_9, b_w8_10, b_w8_11, b_w8_12, b_w8_13, b_w8_14, b_w8_15, b_w8_16, b_w8_17, b_w8_18, b_w8_19, b_w8_20, b_w8_21, b_w8_22, b_w8_23, b_w8_24, b_w8_25, b_w8_26, b_w8_27, b_w8_28, b_w8_29, b_w8_30, b_w8_31, b_w8_32, b_w8_33, b_w8_34, b_w8_35, b_w8_36, b_w8_37, b_w8_38, b_w8_39, b_w8_40, b_w8_41, b_w8_42, b_w8_43, b_w8_44, b_w8_45, b_w8_46, b_w8_47, b_w8_48, b_w8_49, b_w8_50, b_w8_51, b_w8_52, b_w8_53, b_w8_54, b_w8_55, b_w8_56, b_w8_57, b_w8_58, b_w8_59, b_w8_60, b_w8_61, b_w8_62, b_w8_63, b_w8_64, b_w8_65, b_w8_66, b_w8_67, b_w8_68, b_w8_69, b_w8_70, b_w8_71, b_w8_72, b_w8_73, b_w8_74, b_w8_75, b_w8_76, b_w8_77, b_w8_78, b_w8_79, b_w8_80, b_w8_81, b_w8_82, b_w8_83, b_w8_84, b_w8_85, b_w8_86, b_w8_87, b_w8_88, b_w8_89, b_w8_90, b_w8_91, b_w8_92, b_w8_93, b_O0, b_F0_0, b_V0_0, b_F0_1, b_V0_1, b_F0_2, b_V0_2, b_F0_3, b_V0_3, b_F0_4, b_V0_4, b_F0_5, b_V0_5, b_F0_6, b_V0_6, b_F0_7, b_V0_7, b_F0_8, b_V0_8, b_F0_9, b_V0_9, b_O1, b_F1_0, b_V1_0, b_F1_1, b_V1_1, b_F1_2, b_V1_2, b_F1_3, b_V1_3, b_F1_4, b_V1_4, b_F1_5, b_V1_5, b_F1_6, b_V1_6, b_F1_7, b_V1_7, b_O2, b_F2_0, b_V2_0, b_F2_1, b_V2_1, b_F2_2, b_V2_2, b_O3, b_F3_0, b_V3_0, b_F3_1, b_V3_1, b_F3_2, b_V3_2, b_F3_3, b_V3_3, b_O4, b_F4_0, b_V4_0, b_F4_1, b_V4_1, b_F4_2, b_V4_2, b_F4_3, b_V4_3, b_F4_4, b_V4_4, b_F4_5, b_V4_5, b_F4_6, b_V4_6, b_F4_7, b_V4_7, b_F4_8, b_V4_8, b_F4_9, b_V4_9, b_F4_10, b_V4_10, b_O5, b_F5_0, b_V5_0, b_F5_1, b_V5_1, b_O6, b_F6_0, b_V6_0, b_F6_1, b_V6_1, b_F6_2, b_V6_2, b_F6_3, b_V6_3, b_F6_4, b_V6_4, b_inI, b_inJ, b_aI, b_aJ, b_inW, b_sI, b_inL, b_aL, b_sL, b_aQ, b_sQ, b_isA, b_isA2, b_isA3, b_ln, b_sC, b_us, b_fit0, b_fit1, reduceIte, Nat.reduceAdd, Nat.reduceEqDiff, Nat.succ_ne_self, Nat.one_ne_zero, Nat.zero_ne_one, Nat.zero_add, rv_53, rv_54, tnw_ne, pcw_ne, b_inQ2, b_inP2, b_aQ2, b_sQ2, scw_0, scw_8, scw_9, scw_10, scw_11, scw_12, scw_ne, tnw_at, rdw_r, rdw_t, rdw_ne, b_un]; done) | omega | (simp -implicitDefEqProofs (disch := omega) only [*, b_isI, b_isR, b_isL, b_isD, b_gv, b_gi, b_nn, b_l1, b_l2, b_e0, b_ei, b_er, b_el, b_ed, b_w80, b_w8_0, b_w8_1, b_w8_2, b_w8_3, b_w8_4, b_w8_5, b_w8_6, b_w8_7, b_w8_8, b_w8_9, b_w8_10, b_w8_11, b_w8_12, b_w8_13, b_w8_14, b_w8_15, b_w8_16, b_w8_17, b_w8_18, b_w8_19, b_w8_20, b_w8_21, b_w8_22, b_w8_23, b_w8_24, b_w8_25, b_w8_26, b_w8_27, b_w8_28, b_w8_29, b_w8_30, b_w8_31, b_w8_32, b_w8_33, b_w8_34, b_w8_35, b_w8_36, b_w8_37, b_w8_38, b_w8_39, b_w8_40, b_w8_41, b_w8_42, b_w8_43, b_w8_44, b_w8_45, b_w8_46, b_w8_47, b_w8_48, b_w8_49, b_w8_50, b_w8_51, b_w8_52, b_w8_53, b_w8_54, b_w8_55, b_w8_56, b_w8_57, b_w8_58, b_w8_59, b_w8_60, b_w8_61, b_w8_62, b_w8_63, b_w8_64, b_w8_65, b_w8_66, b_w8_67, b_w8_68, b_w8_69, b_w8_70, b_w8_71, b_w8_72, b_w8_73, b_w8_74, b_w8_75, b_w8_76, b_w8_77, b_w8_78, b_w8_79, b_w8_80, b_w8_81, b_w8_82, b_w8_83, b_w8_84, b_w8_85, b_w8_86, b_w8_87, b_w8_88, b_w8_89, b_w8_90, b_w8_91, b_w8_92, b_w8_93, b_O0, b_F0_0, b_V0_0, b_F0_1, b_V0_1, b_F0_2, b_V0_2, b_F0_3, b_V0_3, b_F0_4, b_V0_4, b_F0_5, b_V0_5, b_F0_6, b_V0_6, b_F0_7, b_V0_7, b_F0_8, b_V0_8, b_F0_9, b_V0_9, b_O1, b_F1_0, b_V1_0, b_F1_1, b_V1_1, b_F1_2, b_V1_2, b_F1_3, b_V1_3, b_F1_4, b_V1_4, b_F1_5, b_V1_5, b_F1_6, b_V1_6, b_F1_7, b_V1_7, b_O2, b_F2_0, b_V2_0, b_F2_1, b_V2_1, b_F2_2, b_V2_2, b_O3, b_F3_0, b_V3_0, b_F3_1, b_V3_1, b_F3_2, b_V3_2, b_F3_3, b_V3_3, b_O4, b_F4_0, b_V4_0, b_F4_1, b_V4_1, b_F4_2, b_V4_2, b_F4_3, b_V4_3, b_F4_4, b_V4_4, b_F4_5, b_V4_5, b_F4_6, b_V4_6, b_F4_7, b_V4_7, b_F4_8, b_V4_8, b_F4_9, b_V4_9, b_F4_10, b_V4_10, b_O5, b_F5_0, b_V5_0, b_F5_1, b_V5_1, b_O6, b_F6_0, b_V6_0, b_F6_1, b_V6_1, b_F6_2, b_V6_2, b_F6_3, b_V6_3, b_F6_4, b_V6_4, b_inI, b_inJ, b_aI, b_aJ, b_inW, b_sI, b_inL, b_aL, b_sL, b_aQ, b_sQ, b_isA, b_isA2, b_isA3, b_ln, b_sC, b_us, b_fit0, b_fit1, reduceIte, Nat.reduceAdd, Nat.reduceEqDiff, Nat.succ_ne_self, Nat.one_ne_zero, Nat.zero_ne_one, Nat.zero_add, rv_53, rv_54, tnw_ne, pcw_ne, b_inQ2, b_inP2, b_aQ2, b_sQ2, scw_0, scw_8, scw_9, scw_10, scw_11, scw_12, scw_ne, tnw_at, rdw_r, rdw_t, rdw_ne, b_un]; refine b_inb ?_ ?_ <;> omega) | fail) only [e_20_0, e_20_1, e_20_2, e_20_5, e_20_8, e_20_9, e_20_10, e_20_13, e_20_14, e_20_15, e_20_16, e_20_17, e_20_18, e_20_21, e_20_24, e_20_25, e_20_26, e_20_27, e_20_30, e_20_33, e_20_34, e_20_35, e_20_38, e_20_39, e_20_40, e_20_43, rv_53, rv_54, b_isI, b_isR, b_isL, b_isD, b_gv, b_gi, b_nn, b_l1, b_l2, b_e0, b_ei, b_er, b_el, b_ed, b_w80, b_w8_0, b_w8_1, b_w8_2, b_w8_3, b_w8_4, b_w8_5, b_w8_6, b_w8_7, b_w8_8, b_w8_9, b_w8_10, b_w8_11, b_w8_12, b_w8_13, b_w8_14, b_w8_15, b_w8_16, b_w8_17, b_w8_18, b_w8_19, b_w8_20, b_w8_21, b_w8_22, b_w8_23, b_w8_24, b_w8_25, b_w8_26, b_w8_27, b_w8_28, b_w8_29, b_w8_30, b_w8_31, b_w8_32, b_w8_33, b_w8_34, b_w8_35, b_w8_36, b_w8_37, b_w8_38, b_w8_39, b_w8_40, b_w8_41, b_w8_42, b_w8_43, b_w8_44, b_w8_45, b_w8_46, b_w8_47, b_w8_48, b_w8_49, b_w8_50, b_w8_51, b_w8_52, b_w8_53, b_w8_54, b_w8_55, b_w8_56, b_w8_57, b_w8_58, b_w8_59, b_w8_60, b_w8_61, b_w8_62, b_w8_63, b_w8_64, b_w8_65, b_w8_66, b_w8_67, b_w8_68, b_w8_69, b_w8_70, b_w8_71, b_w8_72, b_w8_73, b_w8_74, b_w8_75, b_w8_76, b_w8_77, b_w8_78, b_w8_79, b_w8_80, b_w8_81, b_w8_82, b_w8_83, b_w8_84, b_w8_85, b_w8_86, b_w8_87, b_w8_88, b_w8_89, b_w8_90, b_w8_91, b_w8_92, b_w8_93, b_O0, b_F0_0, b_V0_0, b_S0_0, b_F0_1, b_V0_1, b_S0_1, b_F0_2, b_V0_2, b_S0_2, b_F0_3, b_V0_3, b_S0_3, b_F0_4, b_V0_4, b_S0_4, b_F0_5, b_V0_5, b_S0_5, b_F0_6, b_V0_6, b_S0_6, b_F0_7, b_V0_7, b_S0_7, b_F0_8, b_V0_8, b_S0_8, b_F0_9, b_V0_9, b_S0_9, b_O1, b_F1_0, b_V1_0, b_S1_0, b_F1_1, b_V1_1, b_S1_1, b_F1_2, b_V1_2, b_S1_2, b_F1_3, b_V1_3, b_S1_3, b_F1_4, b_V1_4, b_S1_4, b_F1_5, b_V1_5, b_S1_5, b_F1_6, b_V1_6, b_S1_6, b_F1_7, b_V1_7, b_S1_7, b_O2, b_F2_0, b_V2_0, b_S2_0, b_F2_1, b_V2_1, b_S2_1, b_F2_2, b_V2_2, b_S2_2, b_O3, b_F3_0, b_V3_0, b_S3_0, b_F3_1, b_V3_1, b_S3_1, b_F3_2, b_V3_2, b_S3_2, b_F3_3, b_V3_3, b_S3_3, b_O4, b_F4_0, b_V4_0, b_S4_0, b_F4_1, b_V4_1, b_S4_1, b_F4_2, b_V4_2, b_S4_2, b_F4_3, b_V4_3, b_S4_3, b_F4_4, b_V4_4, b_S4_4, b_F4_5, b_V4_5, b_S4_5, b_F4_6, b_V4_6, b_S4_6, b_F4_7, b_V4_7, b_S4_7, b_F4_8, b_V4_8, b_S4_8, b_F4_9, b_V4_9, b_S4_9, b_F4_10, b_V4_10, b_S4_10, b_O5, b_F5_0, b_V5_0, b_S5_0, b_F5_1, b_V5_1, b_S5_1, b_O6, b_F6_0, b_V6_0, b_S6_0, b_F6_1, b_V6_1, b_S6_1, b_F6_2, b_V6_2, b_S6_2, b_F6_3, b_V6_3, b_S6_3, b_F6_4, b_V6_4, b_S6_4, b_inI, b_inJ, b_aI, b_aJ, b_inW, b_sI, b_inL, b_aL, b_sL, b_isA, b_isA2, b_isA3, b_ln, b_sC, ab_aft_v, ab_aft_r, b_us, reduceIte, Nat.reduceAdd, Nat.reduceEqDiff, Nat.reduceMul, ite_true, ite_false, Nat.succ_ne_self, Nat.one_ne_zero, Nat.zero_ne_one, Nat.zero_add, Nat.add_zero, Nat.add_one_sub_one, List.cons_append, List.nil_append, Option.toList_some, Option.toList_none, b_un, b_leT, b_leF, b_ltT, b_ltF, b_eqT, b_eqF, b_eq0T, b_eq0F, b_le0T, b_le0F, b_gt0T, b_gt0F, l_leT, l_leF, l_ltT, l_ltF, l_eqT, l_eqF, lg_cl, lg_cle, lg_cge, lg_cgt, lg_ce, b_il, b_li, lN_mul, lN_add, b_cl, nI_add, pk_mul, b_neg0, b_nng0, tnw_ne, pcw_ne, b_inQ2, b_inP2, b_aQ2, b_sQ2, scw_0, scw_8, scw_9, scw_10, scw_11, scw_12, scw_ne, tnw_at, rdw_r, rdw_t, rdw_ne, h3, h5, c0, c4, c5, e1, e2]
  rfl
theorem c_setBar {i w v : Nat} (h : cw σ P n H I J kp len a X) (hP : okP P) (hX : pbOn X 0) (hi : i < P.1) (hw : w < 5) (hv : vOK w v) : ∃ σ' H' c' C', ab_Cl 2 [.ref 3, .int (nI i), .int (nI w), .int (nI v)] (g, σ) = some (.inl (some (.int (nI (P.2.2.2.1 (5 * i + w))))), (g, σ')) ∧ cw σ' (P.1, P.2.1, c', s_sb P.2.2.2.1 i w v, P.2.2.2.2.1, C') (s_n1 n) H' I J kp len a X ∧ s_rem n H H' P ∧ s_flt (P.1, P.2.1, P.2.2.1, s_sb P.2.2.2.1 i w v, P.2.2.2.2.1, P.2.2.2.2.2) c' C' ∧ ∀ i, i < 1 ∨ 108 ≤ i → σ' i = σ i := by
  have h0 := cw_0 h
  have b24 := hP.1.1
  obtain ⟨h3, h4, h5, h6, h8, h10, h18, h17⟩ := cw0_hd h0
  obtain ⟨s1, s2⟩ := cw0_st h0
  have c0 := sp_ix (w := (g, σ)) hi (by omega)
  have c1 := sp_ix (w := (g, σ)) hw (by omega)
  have c2 := sp_np0 (g := g) h0 hX
  have c3 := tp_cell (g := g) (i := i) (j := w) h0.2.2.2.1 hi hw b24 (by omega) (by omega) (by omega)
  obtain ⟨σ1, H', c4, k1, k2, k3⟩ := cw0_remember (g := g) h0 (okP_fit hP)
  obtain ⟨i3, i4, i5, i6, i8, i10, i18, i17⟩ := cw0_hd k1
  have c5 := tp_put (g := g) (i := i) (j := w) (x := v) k1.2.2.2.1 hi hw b24 (by omega) (by omega) (by omega)
  rw [Nat.mul_comm i 5] at c3 c5
  have k4 := cw0_bars (k := P.1) (f := ab_up P.2.2.2.1 (5 * i + w) v) k1
  obtain ⟨j3, j4, j5, j6, j8, j10, j18, j17⟩ := cw0_hd k4
  have okb := okB_sb hP.1 hi hw hv
  have hbi := hP.1.2 i hi
  have d0 : ab_up P.2.2.2.1 (5 * i + w) v (5 * i) ≤ 12 := by
    by_cases z : w = 0
    · subst z
      rw [Nat.add_zero, b_us]
      rcases hv with hv | hv
      · omega
      · exact hv.2
    · rw [b_un (by omega)]
      omega
  have d4 : ab_up P.2.2.2.1 (5 * i + w) v (5 * i + 4) < 4096 := by
    by_cases z : w = 4
    · subst z
      rw [b_us]
      rcases hv with hv | hv
      · omega
      · exact Nat.lt_succ_of_le hv.2
    · rw [b_un (by omega)]
      omega
  have c6 := c_dropLost (g := g) k4 b24 hi d0 d4
  rw [tnw_w] at c6
  have k5 := cw0_bars (k := P.1) (f := s_sb P.2.2.2.1 i w v) k1
  obtain ⟨m3, m4, m5, m6, m8, m10, m18, m17⟩ := cw0_hd k5
  obtain ⟨σ2, c', C', c7, k6, k7, k8⟩ := cw0_settle (g := g) k5 okb hP.2.1 hP.2.2.1 (fun j hj => by have := (hP.2.2.2 j hj).1; have := s_fb_288 hP.1 (Nat.le_refl _); simp only; omega)
  have e1 := t_least_is (w := w)
  have e2 := a_msw (w := w)
  have tr := t5_rg (w := w)
  have tl := t_least_le (w := w)
  refine ⟨σ2, H', c', C', ?_, k6, k2, k7, fun i hi => ?_⟩
  · have c6 : ab_Cl 20 [.ref 3, .int (nI i)] (g, tnw σ1 6 24 5 P.1 (ab_up P.2.2.2.1 (5 * i + w) v)) = some (.inl none, (g, tnw σ1 6 24 5 P.1 (s_sb P.2.2.2.1 i w v))) := c6
    clear k1 k2 k3 k4 k5 k6 k7 k8 okb h h0 hX hP hbi d0 d4
    rcases hv with ⟨hv, hv2⟩ | ⟨hv, hv2⟩
    · subst hv
      unfold ab_Cl; simp (disch := first | (simp -implicitDefEqProofs (disch := omega) only [*, b_isI, b_isR, b_isL, b_isD, b_gv, b_gi, b_nn, b_l1, b_l2, b_e0, b_ei, b_er, b_el, b_ed, b_w80, b_w8_0, b_w8_1, b_w8_2, b_w8_3, b_w8_4, b_w8_5, b_w8_6, b_w8_7, b_w8_8, b_w8_9, b_w8_10, b_w8_11, b_w8_12, b_w8_13, b_w8_14, b_w8_15, b_w8_16, b_w8_17, b_w8_18, b_w8_19, b_w8_20, b_w8_21, b_w8_22, b_w8_23, b_w8_24, b_w8_25, b_w8_26, b_w8_27, b_w8_28, b_w8_29, b_w8_30, b_w8_31, b_w8_32, b_w8_33, b_w8_34, b_w8_35, b_w8_36, b_w8_37, b_w8_38, b_w8_39, b_w8_40, b_w8_41, b_w8_42, b_w8_43, b_w8_44, b_w8_45, b_w8_46, b_w8_47, b_w8_48, b_w8_49, b_w8_50, b_w8_51, b_w8_52, b_w8_53, b_w8_54, b_w8_55, b_w8_56, b_w8_57, b_w8_58, b_w8_59, b_w8_60, b_w8_61, b_w8_62, b_w8_63, b_w8_64, b_w8_65, b_w8_66, b_w8_67, b_w8_68, b_w8_69, b_w8_70, b_w8_71, b_w8_72, b_w8_73, b_w8_74, b_w8_75, b_w8_76, b_w8_77, b_w8_78, b_w8_79, b_w8_80, b_w8_81, b_w8_82, b_w8_83, b_w8_84, b_w8_85, b_w8_86, b_w8_87, b_w8_88, b_w8_89, b_w8_90, b_w8_91, b_w8_92, b_w8_93, b_O0, b_F0_0, b_V0_0, b_F0_1, b_V0_1, b_F0_2, b_V0_2, b_F0_3, b_V0_3, b_F0_4, b_V0_4, b_F0_5, b_V0_5, b_F0_6, b_V0_6, b_F0_7, b_V0_7, b_F0_8, b_V0_8, b_F0_9, b_V0_9, b_O1, b_F1_0, b_V1_0, b_F1_1, b_V1_1, b_F1_2, b_V1_2, b_F1_3, b_V1_3, b_F1_4, b_V1_4, b_F1_5, b_V1_5, b_F1_6, b_V1_6, b_F1_7, b_V1_7, b_O2, b_F2_0, b_V2_0, b_F2_1, b_V2_1, b_F2_2, b_V2_2, b_O3, b_F3_0, b_V3_0, b_F3_1, b_V3_1, b_F3_2, b_V3_2, b_F3_3, b_V3_3, b_O4, b_F4_0, b_V4_0, b_F4_1, b_V4_1, b_F4_2, b_V4_2, b_F4_3, b_V4_3, b_F4_4, b_V4_4, b_F4_5, b_V4_5, b_F4_6, b_V4_6, b_F4_7, b_V4_7, b_F4_8, b_V4_8, b_F4_9, b_V4_9, b_F4_10, b_V4_10, b_O5, b_F5_0, b_V5_0, b_F5_1, b_V5_1, b_O6, b_F6_0, b_V6_0, b_F6_1, b_V6_1, b_F6_2, b_V6_2, b_F6_3, b_V6_3, b_F6_4, b_V6_4, b_inI, b_inJ, b_aI, b_aJ, b_inW, b_sI, b_inL, b_aL, b_sL, b_aQ, b_sQ, b_isA, b_isA2, b_isA3, b_ln, b_sC, b_us, b_fit0, b_fit1, reduceIte, Nat.reduceAdd, Nat.reduceEqDiff, Nat.succ_ne_self, Nat.one_ne_zero, Nat.zero_ne_one, Nat.zero_add, rv_16, rv_17, rv_19, rv_20, rv_27, rv_53, rv_54, rv_60, tnw_ne, pcw_ne, b_inQ2, b_inP2, b_aQ2, b_sQ2, scw_0, scw_8, scw_9, scw_10, scw_11, scw_12, scw_ne, tnw_at, rdw_r, rdw_t, rdw_ne, b_un]; done) | omega | (simp -implicitDefEqProofs (disch := omega) only [*, b_isI, b_isR, b_isL, b_isD, b_gv, b_gi, b_nn, b_l1, b_l2, b_e0, b_ei, b_er, b_el, b_ed, b_w80, b_w8_0, b_w8_1, b_w8_2, b_w8_3, b_w8_4, b_w8_5, b_w8_6, b_w8_7, b_w8_8, b_w8_9, b_w8_10, b_w8_11, b_w8_12, b_w8_13, b_w8_14, b_w8_15, b_w8_16, b_w8_17, b_w8_18, b_w8_19, b_w8_20, b_w8_21, b_w8_22, b_w8_23, b_w8_24, b_w8_25, b_w8_26, b_w8_27, b_w8_28, b_w8_29, b_w8_30, b_w8_31, b_w8_32, b_w8_33, b_w8_34, b_w8_35, b_w8_36, b_w8_37, b_w8_38, b_w8_39, b_w8_40, b_w8_41, b_w8_42, b_w8_43, b_w8_44, b_w8_45, b_w8_46, b_w8_47, b_w8_48, b_w8_49, b_w8_50, b_w8_51, b_w8_52, b_w8_53, b_w8_54, b_w8_55, b_w8_56, b_w8_57, b_w8_58, b_w8_59, b_w8_60, b_w8_61, b_w8_62, b_w8_63, b_w8_64, b_w8_65, b_w8_66, b_w8_67, b_w8_68, b_w8_69, b_w8_70, b_w8_71, b_w8_72, b_w8_73, b_w8_74, b_w8_75, b_w8_76, b_w8_77, b_w8_78, b_w8_79, b_w8_80, b_w8_81, b_w8_82, b_w8_83, b_w8_84, b_w8_85, b_w8_86, b_w8_87, b_w8_88, b_w8_89, b_w8_90, b_w8_91, b_w8_92, b_w8_93, b_O0, b_F0_0, b_V0_0, b_F0_1, b_V0_1, b_F0_2, b_V0_2, b_F0_3, b_V0_3, b_F0_4, b_V0_4, b_F0_5, b_V0_5, b_F0_6, b_V0_6, b_F0_7, b_V0_7, b_F0_8, b_V0_8, b_F0_9, b_V0_9, b_O1, b_F1_0, b_V1_0, b_F1_1, b_V1_1, b_F1_2, b_V1_2, b_F1_3, b_V1_3, b_F1_4, b_V1_4, b_F1_5, b_V1_5, b_F1_6, b_V1_6, b_F1_7, b_V1_7, b_O2, b_F2_0, b_V2_0, b_F2_1, b_V2_1, b_F2_2, b_V2_2, b_O3, b_F3_0, b_V3_0, b_F3_1, b_V3_1, b_F3_2, b_V3_2, b_F3_3, b_V3_3, b_O4, b_F4_0, b_V4_0, b_F4_1, b_V4_1, b_F4_2, b_V4_2, b_F4_3, b_V4_3, b_F4_4, b_V4_4, b_F4_5, b_V4_5, b_F4_6, b_V4_6, b_F4_7, b_V4_7, b_F4_8, b_V4_8, b_F4_9, b_V4_9, b_F4_10, b_V4_10, b_O5, b_F5_0, b_V5_0, b_F5_1, b_V5_1, b_O6, b_F6_0, b_V6_0, b_F6_1, b_V6_1, b_F6_2, b_V6_2, b_F6_3, b_V6_3, b_F6_4, b_V6_4, b_inI, b_inJ, b_aI, b_aJ, b_inW, b_sI, b_inL, b_aL, b_sL, b_aQ, b_sQ, b_isA, b_isA2, b_isA3, b_ln, b_sC, b_us, b_fit0, b_fit1, reduceIte, Nat.reduceAdd, Nat.reduceEqDiff, Nat.succ_ne_self, Nat.one_ne_zero, Nat.zero_ne_one, Nat.zero_add, rv_16, rv_17, rv_19, rv_20, rv_27, rv_53, rv_54, rv_60, tnw_ne, pcw_ne, b_inQ2, b_inP2, b_aQ2, b_sQ2, scw_0, scw_8, scw_9, scw_10, scw_11, scw_12, scw_ne, tnw_at, rdw_r, rdw_t, rdw_ne, b_un]; refine b_inb ?_ ?_ <;> omega) | fail) only [e_2_0, e_2_1, e_2_2, e_2_5, e_2_8, e_2_11, e_2_14, e_2_15, e_2_16, e_2_19, e_2_20, e_2_23, e_2_24, e_2_25, e_2_28, e_2_29, e_2_30, e_2_33, e_2_34, e_2_35, e_2_36, e_2_39, e_2_40, e_2_41, e_2_42, e_2_45, e_2_46, e_2_49, e_2_50, e_2_53, e_2_56, e_2_57, e_2_58, e_2_61, e_2_63, e_2_64, e_2_67, e_2_68, e_2_71, e_2_74, e_2_75, e_2_78, e_2_81, e_2_82, e_2_83, e_2_84, e_2_87, e_2_88, e_2_89, e_2_92, e_2_93, e_2_96, e_2_99, e_2_101, x_2_11, x_2_16, x_2_42, x_2_46, x_2_96, rv_16, rv_17, rv_19, rv_20, rv_27, rv_53, rv_54, rv_60, b_isI, b_isR, b_isL, b_isD, b_gv, b_gi, b_nn, b_l1, b_l2, b_e0, b_ei, b_er, b_el, b_ed, b_w80, b_w8_0, b_w8_1, b_w8_2, b_w8_3, b_w8_4, b_w8_5, b_w8_6, b_w8_7, b_w8_8, b_w8_9, b_w8_10, b_w8_11, b_w8_12, b_w8_13, b_w8_14, b_w8_15, b_w8_16, b_w8_17, b_w8_18, b_w8_19, b_w8_20, b_w8_21, b_w8_22, b_w8_23, b_w8_24, b_w8_25, b_w8_26, b_w8_27, b_w8_28, b_w8_29, b_w8_30, b_w8_31, b_w8_32, b_w8_33, b_w8_34, b_w8_35, b_w8_36, b_w8_37, b_w8_38, b_w8_39, b_w8_40, b_w8_41, b_w8_42, b_w8_43, b_w8_44, b_w8_45, b_w8_46, b_w8_47, b_w8_48, b_w8_49, b_w8_50, b_w8_51, b_w8_52, b_w8_53, b_w8_54, b_w8_55, b_w8_56, b_w8_57, b_w8_58, b_w8_59, b_w8_60, b_w8_61, b_w8_62, b_w8_63, b_w8_64, b_w8_65, b_w8_66, b_w8_67, b_w8_68, b_w8_69, b_w8_70, b_w8_71, b_w8_72, b_w8_73, b_w8_74, b_w8_75, b_w8_76, b_w8_77, b_w8_78, b_w8_79, b_w8_80, b_w8_81, b_w8_82, b_w8_83, b_w8_84, b_w8_85, b_w8_86, b_w8_87, b_w8_88, b_w8_89, b_w8_90, b_w8_91, b_w8_92, b_w8_93, b_O0, b_F0_0, b_V0_0, b_S0_0, b_F0_1, b_V0_1, b_S0_1, b_F0_2, b_V0_2, b_S0_2, b_F0_3, b_V0_3, b_S0_3, b_F0_4, b_V0_4, b_S0_4, b_F0_5, b_V0_5, b_S0_5, b_F0_6, b_V0_6, b_S0_6, b_F0_7, b_V0_7, b_S0_7, b_F0_8, b_V0_8, b_S0_8, b_F0_9, b_V0_9, b_S0_9, b_O1, b_F1_0, b_V1_0, b_S1_0, b_F1_1, b_V1_1, b_S1_1, b_F1_2, b_V1_2, b_S1_2, b_F1_3, b_V1_3, b_S1_3, b_F1_4, b_V1_4, b_S1_4, b_F1_5, b_V1_5, b_S1_5, b_F1_6, b_V1_6, b_S1_6, b_F1_7, b_V1_7, b_S1_7, b_O2, b_F2_0, b_V2_0, b_S2_0, b_F2_1, b_V2_1, b_S2_1, b_F2_2, b_V2_2, b_S2_2, b_O3, b_F3_0, b_V3_0, b_S3_0, b_F3_1, b_V3_1, b_S3_1, b_F3_2, b_V3_2, b_S3_2, b_F3_3, b_V3_3, b_S3_3, b_O4, b_F4_0, b_V4_0, b_S4_0, b_F4_1, b_V4_1, b_S4_1, b_F4_2, b_V4_2, b_S4_2, b_F4_3, b_V4_3, b_S4_3, b_F4_4, b_V4_4, b_S4_4, b_F4_5, b_V4_5, b_S4_5, b_F4_6, b_V4_6, b_S4_6, b_F4_7, b_V4_7, b_S4_7, b_F4_8, b_V4_8, b_S4_8, b_F4_9, b_V4_9, b_S4_9, b_F4_10, b_V4_10, b_S4_10, b_O5, b_F5_0, b_V5_0, b_S5_0, b_F5_1, b_V5_1, b_S5_1, b_O6, b_F6_0, b_V6_0, b_S6_0, b_F6_1, b_V6_1, b_S6_1, b_F6_2, b_V6_2, b_S6_2, b_F6_3, b_V6_3, b_S6_3, b_F6_4, b_V6_4, b_S6_4, b_inI, b_inJ, b_aI, b_aJ, b_inW, b_sI, b_inL, b_aL, b_sL, b_isA, b_isA2, b_isA3, b_ln, b_sC, ab_aft_v, ab_aft_r, b_us, reduceIte, Nat.reduceAdd, Nat.reduceEqDiff, Nat.reduceMul, ite_true, ite_false, Nat.succ_ne_self, Nat.one_ne_zero, Nat.zero_ne_one, Nat.zero_add, Nat.add_zero, Nat.add_one_sub_one, List.cons_append, List.nil_append, Option.toList_some, Option.toList_none, b_un, b_leT, b_leF, b_ltT, b_ltF, b_eqT, b_eqF, b_eq0T, b_eq0F, b_le0T, b_le0F, b_gt0T, b_gt0F, l_leT, l_leF, l_ltT, l_ltF, l_eqT, l_eqF, lg_cl, lg_cle, lg_cge, lg_cgt, lg_ce, b_il, b_li, lN_mul, lN_add, b_cl, nI_add, pk_mul, b_neg0, b_nng0, tnw_ne, pcw_ne, b_inQ2, b_inP2, b_aQ2, b_sQ2, scw_0, scw_8, scw_9, scw_10, scw_11, scw_12, scw_ne, tnw_at, rdw_r, rdw_t, rdw_ne, s1, s2, c0, c1, c2, c3, c4, c5, c6, c7, h3, h5, h6, i3, i5, j3, m3]
    · have c := sp_rgT (w := (g, σ)) hv hv2 (by omega)
      unfold ab_Cl; simp (disch := first | (simp -implicitDefEqProofs (disch := omega) only [*, b_isI, b_isR, b_isL, b_isD, b_gv, b_gi, b_nn, b_l1, b_l2, b_e0, b_ei, b_er, b_el, b_ed, b_w80, b_w8_0, b_w8_1, b_w8_2, b_w8_3, b_w8_4, b_w8_5, b_w8_6, b_w8_7, b_w8_8, b_w8_9, b_w8_10, b_w8_11, b_w8_12, b_w8_13, b_w8_14, b_w8_15, b_w8_16, b_w8_17, b_w8_18, b_w8_19, b_w8_20, b_w8_21, b_w8_22, b_w8_23, b_w8_24, b_w8_25, b_w8_26, b_w8_27, b_w8_28, b_w8_29, b_w8_30, b_w8_31, b_w8_32, b_w8_33, b_w8_34, b_w8_35, b_w8_36, b_w8_37, b_w8_38, b_w8_39, b_w8_40, b_w8_41, b_w8_42, b_w8_43, b_w8_44, b_w8_45, b_w8_46, b_w8_47, b_w8_48, b_w8_49, b_w8_50, b_w8_51, b_w8_52, b_w8_53, b_w8_54, b_w8_55, b_w8_56, b_w8_57, b_w8_58, b_w8_59, b_w8_60, b_w8_61, b_w8_62, b_w8_63, b_w8_64, b_w8_65, b_w8_66, b_w8_67, b_w8_68, b_w8_69, b_w8_70, b_w8_71, b_w8_72, b_w8_73, b_w8_74, b_w8_75, b_w8_76, b_w8_77, b_w8_78, b_w8_79, b_w8_80, b_w8_81, b_w8_82, b_w8_83, b_w8_84, b_w8_85, b_w8_86, b_w8_87, b_w8_88, b_w8_89, b_w8_90, b_w8_91, b_w8_92, b_w8_93, b_O0, b_F0_0, b_V0_0, b_F0_1, b_V0_1, b_F0_2, b_V0_2, b_F0_3, b_V0_3, b_F0_4, b_V0_4, b_F0_5, b_V0_5, b_F0_6, b_V0_6, b_F0_7, b_V0_7, b_F0_8, b_V0_8, b_F0_9, b_V0_9, b_O1, b_F1_0, b_V1_0, b_F1_1, b_V1_1, b_F1_2, b_V1_2, b_F1_3, b_V1_3, b_F1_4, b_V1_4, b_F1_5, b_V1_5, b_F1_6, b_V1_6, b_F1_7, b_V1_7, b_O2, b_F2_0, b_V2_0, b_F2_1, b_V2_1, b_F2_2, b_V2_2, b_O3, b_F3_0, b_V3_0, b_F3_1, b_V3_1, b_F3_2, b_V3_2, b_F3_3, b_V3_3, b_O4, b_F4_0, b_V4_0, b_F4_1, b_V4_1, b_F4_2, b_V4_2, b_F4_3, b_V4_3, b_F4_4, b_V4_4, b_F4_5, b_V4_5, b_F4_6, b_V4_6, b_F4_7, b_V4_7, b_F4_8, b_V4_8, b_F4_9, b_V4_9, b_F4_10, b_V4_10, b_O5, b_F5_0, b_V5_0, b_F5_1, b_V5_1, b_O6, b_F6_0, b_V6_0, b_F6_1, b_V6_1, b_F6_2, b_V6_2, b_F6_3, b_V6_3, b_F6_4, b_V6_4, b_inI, b_inJ, b_aI, b_aJ, b_inW, b_sI, b_inL, b_aL, b_sL, b_aQ, b_sQ, b_isA, b_isA2, b_isA3, b_ln, b_sC, b_us, b_fit0, b_fit1, reduceIte, Nat.reduceAdd, Nat.reduceEqDiff, Nat.succ_ne_self, Nat.one_ne_zero, Nat.zero_ne_one, Nat.zero_add, rv_16, rv_17, rv_19, rv_20, rv_27, rv_53, rv_54, rv_60, tnw_ne, pcw_ne, b_inQ2, b_inP2, b_aQ2, b_sQ2, scw_0, scw_8, scw_9, scw_10, scw_11, scw_12, scw_ne, tnw_at, rdw_r, rdw_t, rdw_ne, b_un]; done) | omega | (simp -implicitDefEqProofs (disch := omega) only [*, b_isI, b_isR, b_isL, b_isD, b_gv, b_gi, b_nn, b_l1, b_l2, b_e0, b_ei, b_er, b_el, b_ed, b_w80, b_w8_0, b_w8_1, b_w8_2, b_w8_3, b_w8_4, b_w8_5, b_w8_6, b_w8_7, b_w8_8, b_w8_9, b_w8_10, b_w8_11, b_w8_12, b_w8_13, b_w8_14, b_w8_15, b_w8_16, b_w8_17, b_w8_18, b_w8_19, b_w8_20, b_w8_21, b_w8_22, b_w8_23, b_w8_24, b_w8_25, b_w8_26, b_w8_27, b_w8_28, b_w8_29, b_w8_30, b_w8_31, b_w8_32, b_w8_33, b_w8_34, b_w8_35, b_w8_36, b_w8_37, b_w8_38, b_w8_39, b_w8_40, b_w8_41, b_w8_42, b_w8_43, b_w8_44, b_w8_45, b_w8_46, b_w8_47, b_w8_48, b_w8_49, b_w8_50, b_w8_51, b_w8_52, b_w8_53, b_w8_54, b_w8_55, b_w8_56, b_w8_57, b_w8_58, b_w8_59, b_w8_60, b_w8_61, b_w8_62, b_w8_63, b_w8_64, b_w8_65, b_w8_66, b_w8_67, b_w8_68, b_w8_69, b_w8_70, b_w8_71, b_w8_72, b_w8_73, b_w8_74, b_w8_75, b_w8_76, b_w8_77, b_w8_78, b_w8_79, b_w8_80, b_w8_81, b_w8_82, b_w8_83, b_w8_84, b_w8_85, b_w8_86, b_w8_87, b_w8_88, b_w8_89, b_w8_90, b_w8_91, b_w8_92, b_w8_93, b_O0, b_F0_0, b_V0_0, b_F0_1, b_V0_1, b_F0_2, b_V0_2, b_F0_3, b_V0_3, b_F0_4, b_V0_4, b_F0_5, b_V0_5, b_F0_6, b_V0_6, b_F0_7, b_V0_7, b_F0_8, b_V0_8, b_F0_9, b_V0_9, b_O1, b_F1_0, b_V1_0, b_F1_1, b_V1_1, b_F1_2, b_V1_2, b_F1_3, b_V1_3, b_F1_4, b_V1_4, b_F1_5, b_V1_5, b_F1_6, b_V1_6, b_F1_7, b_V1_7, b_O2, b_F2_0, b_V2_0, b_F2_1, b_V2_1, b_F2_2, b_V2_2, b_O3, b_F3_0, b_V3_0, b_F3_1, b_V3_1, b_F3_2, b_V3_2, b_F3_3, b_V3_3, b_O4, b_F4_0, b_V4_0, b_F4_1, b_V4_1, b_F4_2, b_V4_2, b_F4_3, b_V4_3, b_F4_4, b_V4_4, b_F4_5, b_V4_5, b_F4_6, b_V4_6, b_F4_7, b_V4_7, b_F4_8, b_V4_8, b_F4_9, b_V4_9, b_F4_10, b_V4_10, b_O5, b_F5_0, b_V5_0, b_F5_1, b_V5_1, b_O6, b_F6_0, b_V6_0, b_F6_1, b_V6_1, b_F6_2, b_V6_2, b_F6_3, b_V6_3, b_F6_4, b_V6_4, b_inI, b_inJ, b_aI, b_aJ, b_inW, b_sI, b_inL, b_aL, b_sL, b_aQ, b_sQ, b_isA, b_isA2, b_isA3, b_ln, b_sC, b_us, b_fit0, b_fit1, reduceIte, Nat.reduceAdd, Nat.reduceEqDiff, Nat.succ_ne_self, Nat.one_ne_zero, Nat.zero_ne_one, Nat.zero_add, rv_16, rv_17, rv_19, rv_20, rv_27, rv_53, rv_54, rv_60, tnw_ne, pcw_ne, b_inQ2, b_inP2, b_aQ2, b_sQ2, scw_0, scw_8, scw_9, scw_10, scw_11, scw_12, scw_ne, tnw_at, rdw_r, rdw_t, rdw_ne, b_un]; refine b_inb ?_ ?_ <;> omega) | fail) only [e_2_0, e_2_1, e_2_2, e_2_5, e_2_8, e_2_11, e_2_14, e_2_15, e_2_16, e_2_19, e_2_20, e_2_23, e_2_24, e_2_25, e_2_28, e_2_29, e_2_30, e_2_33, e_2_34, e_2_35, e_2_36, e_2_39, e_2_40, e_2_41, e_2_42, e_2_45, e_2_46, e_2_49, e_2_50, e_2_53, e_2_56, e_2_57, e_2_58, e_2_61, e_2_63, e_2_64, e_2_67, e_2_68, e_2_71, e_2_74, e_2_75, e_2_78, e_2_81, e_2_82, e_2_83, e_2_84, e_2_87, e_2_88, e_2_89, e_2_92, e_2_93, e_2_96, e_2_99, e_2_101, x_2_11, x_2_16, x_2_42, x_2_46, x_2_96, rv_16, rv_17, rv_19, rv_20, rv_27, rv_53, rv_54, rv_60, b_isI, b_isR, b_isL, b_isD, b_gv, b_gi, b_nn, b_l1, b_l2, b_e0, b_ei, b_er, b_el, b_ed, b_w80, b_w8_0, b_w8_1, b_w8_2, b_w8_3, b_w8_4, b_w8_5, b_w8_6, b_w8_7, b_w8_8, b_w8_9, b_w8_10, b_w8_11, b_w8_12, b_w8_13, b_w8_14, b_w8_15, b_w8_16, b_w8_17, b_w8_18, b_w8_19, b_w8_20, b_w8_21, b_w8_22, b_w8_23, b_w8_24, b_w8_25, b_w8_26, b_w8_27, b_w8_28, b_w8_29, b_w8_30, b_w8_31, b_w8_32, b_w8_33, b_w8_34, b_w8_35, b_w8_36, b_w8_37, b_w8_38, b_w8_39, b_w8_40, b_w8_41, b_w8_42, b_w8_43, b_w8_44, b_w8_45, b_w8_46, b_w8_47, b_w8_48, b_w8_49, b_w8_50, b_w8_51, b_w8_52, b_w8_53, b_w8_54, b_w8_55, b_w8_56, b_w8_57, b_w8_58, b_w8_59, b_w8_60, b_w8_61, b_w8_62, b_w8_63, b_w8_64, b_w8_65, b_w8_66, b_w8_67, b_w8_68, b_w8_69, b_w8_70, b_w8_71, b_w8_72, b_w8_73, b_w8_74, b_w8_75, b_w8_76, b_w8_77, b_w8_78, b_w8_79, b_w8_80, b_w8_81, b_w8_82, b_w8_83, b_w8_84, b_w8_85, b_w8_86, b_w8_87, b_w8_88, b_w8_89, b_w8_90, b_w8_91, b_w8_92, b_w8_93, b_O0, b_F0_0, b_V0_0, b_S0_0, b_F0_1, b_V0_1, b_S0_1, b_F0_2, b_V0_2, b_S0_2, b_F0_3, b_V0_3, b_S0_3, b_F0_4, b_V0_4, b_S0_4, b_F0_5, b_V0_5, b_S0_5, b_F0_6, b_V0_6, b_S0_6, b_F0_7, b_V0_7, b_S0_7, b_F0_8, b_V0_8, b_S0_8, b_F0_9, b_V0_9, b_S0_9, b_O1, b_F1_0, b_V1_0, b_S1_0, b_F1_1, b_V1_1, b_S1_1, b_F1_2, b_V1_2, b_S1_2, b_F1_3, b_V1_3, b_S1_3, b_F1_4, b_V1_4, b_S1_4, b_F1_5, b_V1_5, b_S1_5, b_F1_6, b_V1_6, b_S1_6, b_F1_7, b_V1_7, b_S1_7, b_O2, b_F2_0, b_V2_0, b_S2_0, b_F2_1, b_V2_1, b_S2_1, b_F2_2, b_V2_2, b_S2_2, b_O3, b_F3_0, b_V3_0, b_S3_0, b_F3_1, b_V3_1, b_S3_1, b_F3_2, b_V3_2, b_S3_2, b_F3_3, b_V3_3, b_S3_3, b_O4, b_F4_0, b_V4_0, b_S4_0, b_F4_1, b_V4_1, b_S4_1, b_F4_2, b_V4_2, b_S4_2, b_F4_3, b_V4_3, b_S4_3, b_F4_4, b_V4_4, b_S4_4, b_F4_5, b_V4_5, b_S4_5, b_F4_6, b_V4_6, b_S4_6, b_F4_7, b_V4_7, b_S4_7, b_F4_8, b_V4_8, b_S4_8, b_F4_9, b_V4_9, b_S4_9, b_F4_10, b_V4_10, b_S4_10, b_O5, b_F5_0, b_V5_0, b_S5_0, b_F5_1, b_V5_1, b_S5_1, b_O6, b_F6_0, b_V6_0, b_S6_0, b_F6_1, b_V6_1, b_S6_1, b_F6_2, b_V6_2, b_S6_2, b_F6_3, b_V6_3, b_S6_3, b_F6_4, b_V6_4, b_S6_4, b_inI, b_inJ, b_aI, b_aJ, b_inW, b_sI, b_inL, b_aL, b_sL, b_isA, b_isA2, b_isA3, b_ln, b_sC, ab_aft_v, ab_aft_r, b_us, reduceIte, Nat.reduceAdd, Nat.reduceEqDiff, Nat.reduceMul, ite_true, ite_false, Nat.succ_ne_self, Nat.one_ne_zero, Nat.zero_ne_one, Nat.zero_add, Nat.add_zero, Nat.add_one_sub_one, List.cons_append, List.nil_append, Option.toList_some, Option.toList_none, b_un, b_leT, b_leF, b_ltT, b_ltF, b_eqT, b_eqF, b_eq0T, b_eq0F, b_le0T, b_le0F, b_gt0T, b_gt0F, l_leT, l_leF, l_ltT, l_ltF, l_eqT, l_eqF, lg_cl, lg_cle, lg_cge, lg_cgt, lg_ce, b_il, b_li, lN_mul, lN_add, b_cl, nI_add, pk_mul, b_neg0, b_nng0, tnw_ne, pcw_ne, b_inQ2, b_inP2, b_aQ2, b_sQ2, scw_0, scw_8, scw_9, scw_10, scw_11, scw_12, scw_ne, tnw_at, rdw_r, rdw_t, rdw_ne, s1, s2, c0, c1, c2, c3, c4, c5, c6, c7, c, h3, h5, h6, i3, i5, j3, m3, e1, e2]
  · rw [k8 i (by omega), tnw_ne (by omega) (by omega), k3 i (by omega)]
end
