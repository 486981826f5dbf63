theorem s_dv_rg {P : pv} {j : Nat} (hB : okB P.2.2.2.1 P.1) (hj : j < s_fb P.2.2.2.1 P.1) : 1 ≤ s_dv P j ∧ s_dv P j ≤ 8 := by
  have bb := s_bo_fb hB hj
  have b1 := hB.2 _ bb.1
  unfold s_dv
  omega
section
variable {g : ab_G} {σ σ' : ab_S} {P : pv} {n : Nat} {H : Nat → pv} {I J : pv} {kp len : Nat} {a : Nat → Nat} {X : Option ab_C}
theorem s_fb_lt {B : Nat → Nat} {b i : Nat} (h : okB B b) (hi : i < b) : s_fb B i < s_fb B b := by
  have m := s_fb_mono (B := B) (show i + 1 ≤ b by omega)
  have e : s_fb B (i + 1) = s_fb B i + B (5 * i) := rfl
  have := (h.2 i hi).1
  omega
end
section
variable {g : ab_G} {σ σ' : ab_S} {P : pv} {n : Nat} {H : Nat → pv} {I J : pv} {kp len : Nat} {a : Nat → Nat} {X : Option ab_C}
theorem cw_hst (h : cw σ P n H I J kp len a X) : σ 18 = some (.inr (5, [.ref 19, .int (nI n)])) ∧ n ≤ 8 := by
  obtain ⟨⟨h1, h2, h3, h4, ⟨q, h5⟩, h6⟩, h7⟩ := h
  exact ⟨h5.1, h5.2.2.1⟩
end
section
variable {g : ab_G} {σ σ' : ab_S} {P : pv} {n : Nat} {H : Nat → pv} {I J : pv} {kp len : Nat} {a : Nat → Nat} {X : Option ab_C}
theorem s_ib_tm {i : Nat} (hP : okP P) (hi : i < P.1) : s_ib P.2.2.2.1 P.2.2.2.2.1 P.2.1 i (P.2.2.2.1 (5 * i)) ≤ s_tm P.2.2.2.1 P.2.2.2.2.1 P.2.1 P.1 := by
  have h : ∀ k, i < k → s_ib P.2.2.2.1 P.2.2.2.2.1 P.2.1 i (P.2.2.2.1 (5 * i)) ≤ s_tm P.2.2.2.1 P.2.2.2.2.1 P.2.1 k := by
    intro k
    induction k with
    | zero => intro h; omega
    | succ k ih =>
      intro hk
      have e : s_tm P.2.2.2.1 P.2.2.2.2.1 P.2.1 (k + 1) = s_tm P.2.2.2.1 P.2.2.2.2.1 P.2.1 k + s_ib P.2.2.2.1 P.2.2.2.2.1 P.2.1 k (P.2.2.2.1 (5 * k)) + 1000 * P.2.2.2.1 (5 * k + 3) := rfl
      by_cases z : i = k
      · subst z
        omega
      · have := ih (by omega)
        omega
  exact h _ hi
end
