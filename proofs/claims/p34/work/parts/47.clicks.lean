/-! ===== clicks heard ===== -/
theorem scs_of {σ σ' : ab_S} {s : Nat} {P : pv} {fb bo tp bg ln : Nat → Nat} (h : scs σ s P fb bo tp bg ln) (f : ∀ i, s ≤ i → i < s + 13 → σ' i = σ i) : scs σ' s P fb bo tp bg ln := by
  refine ⟨?_, pcs_of h.2.1 (fun i hi hi2 => f i (by omega) (by omega)), h.2.2⟩
  funext i
  by_cases r : s ≤ i ∧ i < s + 13
  · have e := congrFun h.1 i
    rw [f i r.1 r.2, ← e]
    unfold scw
    by_cases h0 : i = s
    · simp only [if_pos h0]
    · by_cases h8 : i = s + 8
      · simp only [if_neg h0, if_pos h8]
      · by_cases h9 : i = s + 9
        · simp only [if_neg h0, if_neg h8, if_pos h9]
        · by_cases h10 : i = s + 10
          · simp only [if_neg h0, if_neg h8, if_neg h9, if_pos h10]
          · by_cases h11 : i = s + 11
            · simp only [if_neg h0, if_neg h8, if_neg h9, if_neg h10, if_pos h11]
            · by_cases h12 : i = s + 12
              · simp only [if_neg h0, if_neg h8, if_neg h9, if_neg h10, if_neg h11, if_pos h12]
              · simp only [if_neg h0, if_neg h8, if_neg h9, if_neg h10, if_neg h11, if_neg h12]
                exact f i r.1 r.2
  · rw [scw_ne (by omega) (by omega)]
/-- whether a beat has an accent -/
def s_acc (P : pv) (j : Nat) : Nat := P.2.2.2.1 (5 * s_bo P.2.2.2.1 P.1 j + 4) / 2 ^ (j - s_fb P.2.2.2.1 (s_bo P.2.2.2.1 P.1 j)) % 2
def s_dv (P : pv) (j : Nat) : Nat := P.2.2.2.1 (5 * s_bo P.2.2.2.1 P.1 j + 1)
section
variable {g : ab_G} {σ : ab_S} {s : Nat} {fb bo tp bg ln : Nat → Nat} {P : pv} {b F c v ch nb nc on ck hc hl hq : Nat}
end
