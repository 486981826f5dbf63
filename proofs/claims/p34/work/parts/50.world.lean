/-! ===== the class's world: ids 3 to 107 ===== -/
/-- the player's fields -/
def plO (kp len : Nat) : Option ab_C := some (.inr (0, [.ref 4, .ref 5, .ref 17, .ref 18, .ref 76, .int (nI kp), .ref 77, .int (nI len), .ref 78, .ref 81]))
theorem scw_of {σ σ' : ab_S} {s n e : Nat} {fb bo tp bg ln : Nat → Nat} (h : scw σ s fb bo tp bg ln n e = σ) (f : ∀ i, s ≤ i → i < s + 13 → σ' i = σ i) : scw σ' s fb bo tp bg ln n e = σ' := by
  funext i
  by_cases r : s ≤ i ∧ i < s + 13
  · have e := congrFun h i
    rw [f i r.1 r.2, ← e]
    unfold scw
    by_cases h0 : i = s
    · simp only [if_pos h0]
    · by_cases h8 : i = s + 8
      · simp only [if_neg h0, if_pos h8]
      · by_cases h9 : i = s + 9
        · simp only [if_neg h0, if_neg h8, if_pos h9]
        · by_cases h10 : i = s + 10
          · simp only [if_neg h0, if_neg h8, if_neg h9, if_pos h10]
          · by_cases h11 : i = s + 11
            · simp only [if_neg h0, if_neg h8, if_neg h9, if_neg h10, if_pos h11]
            · by_cases h12 : i = s + 12
              · simp only [if_neg h0, if_neg h8, if_neg h9, if_neg h10, if_neg h11, if_pos h12]
              · simp only [if_neg h0, if_neg h8, if_neg h9, if_neg h10, if_neg h11, if_neg h12]
                exact f i r.1 r.2
  · rw [scw_ne (by omega) (by omega)]
theorem scw_of2 {σ σ' : ab_S} {s n e : Nat} {fb bo tp bg ln : Nat → Nat} (h : scw σ s fb bo tp bg ln n e = σ) (f : ∀ i, i = s ∨ s + 8 ≤ i ∧ i < s + 13 → σ' i = σ i) : scw σ' s fb bo tp bg ln n e = σ' := by
  funext i
  by_cases r : i = s ∨ s + 8 ≤ i ∧ i < s + 13
  · have e1 := congrFun h i
    rw [f i r, ← e1]
    unfold scw
    by_cases y0 : i = s
    · simp only [if_pos y0]
    · by_cases y8 : i = s + 8
      · simp only [if_neg y0, if_pos y8]
      · by_cases y9 : i = s + 9
        · simp only [if_neg y0, if_neg y8, if_pos y9]
        · by_cases y10 : i = s + 10
          · simp only [if_neg y0, if_neg y8, if_neg y9, if_pos y10]
          · by_cases y11 : i = s + 11
            · simp only [if_neg y0, if_neg y8, if_neg y9, if_neg y10, if_pos y11]
            · have y12 : i = s + 12 := by omega
              simp only [if_neg y0, if_neg y8, if_neg y9, if_neg y10, if_neg y11, if_pos y12]
  · rw [scw_ne (by omega) (by omega)]
/-- all but the score and its piece -/
def cwG (σ : ab_S) (n : Nat) (H : Nat → pv) (I J : pv) (kp len : Nat) (a : Nat → Nat) (X : Option ab_C) : Prop :=
  σ 1 = some (ab_ra 5 ab_least) ∧ σ 2 = some (ab_ra 5 ab_most) ∧ σ 3 = plO kp len ∧ σ 17 = X ∧ (∃ q, hst σ 18 n q H) ∧ σ 76 = some (ab_qa 2 (fun j => some (94 + 7 * j))) ∧ pcs σ 94 I ∧ pcs σ 101 J ∧ σ 77 = some (ab_ia 60 (fun j => nI (a j))) ∧ (∃ tk cm w x k f, σ 78 = rdO 78 tk cm w x ∧ tn σ 79 31 5 k f) ∧ ∃ Q fb bo tp bg ln m e, scw σ 81 fb bo tp bg ln m e = σ ∧ pcs σ 82 Q
/-- the piece may have changed: not settled yet -/
def cw0 (σ : ab_S) (P : pv) (n : Nat) (H : Nat → pv) (I J : pv) (kp len : Nat) (a : Nat → Nat) (X : Option ab_C) : Prop :=
  cwG σ n H I J kp len a X ∧ (∃ fb bo tp bg ln m e, scw σ 4 fb bo tp bg ln m e = σ) ∧ pcs σ 5 P
def cw (σ : ab_S) (P : pv) (n : Nat) (H : Nat → pv) (I J : pv) (kp len : Nat) (a : Nat → Nat) (X : Option ab_C) : Prop :=
  cwG σ n H I J kp len a X ∧ ∃ fb bo tp bg ln, scs σ 4 P fb bo tp bg ln
section
variable {g : ab_G} {σ σ' : ab_S} {P : pv} {n : Nat} {H : Nat → pv} {I J : pv} {kp len : Nat} {a : Nat → Nat} {X : Option ab_C}
theorem cwG_of (h : cwG σ n H I J kp len a X) (f : ∀ i, i < 4 ∨ 17 ≤ i → i < 108 → σ' i = σ i) : cwG σ' n H I J kp len a X := by
  obtain ⟨h1, h2, h3, h4, ⟨q, h5⟩, h6, h7, h8, h9, ⟨tk, cm, w, x, k, ff, h10, h11⟩, Q, fb, bo, tp, bg, ln, m, e, h12, h13⟩ := h
  refine ⟨by rw [f 1 (by omega) (by omega)]; exact h1, by rw [f 2 (by omega) (by omega)]; exact h2, by rw [f 3 (by omega) (by omega)]; exact h3, by rw [f 17 (by omega) (by omega)]; exact h4, ⟨q, hst_of h5 (fun i hi hi2 => f i (by omega) (by omega))⟩, by rw [f 76 (by omega) (by omega)]; exact h6, pcs_of h7 (fun i hi hi2 => f i (by omega) (by omega)), pcs_of h8 (fun i hi hi2 => f i (by omega) (by omega)), by rw [f 77 (by omega) (by omega)]; exact h9, ⟨tk, cm, w, x, k, ff, by rw [f 78 (by omega) (by omega)]; exact h10, tn_of h11 (f 79 (by omega) (by omega)) (f 80 (by omega) (by omega))⟩, Q, fb, bo, tp, bg, ln, m, e, scw_of h12 (fun i hi hi2 => f i (by omega) (by omega)), pcs_of h13 (fun i hi hi2 => f i (by omega) (by omega))⟩
theorem cw_of (h : cw σ P n H I J kp len a X) (f : ∀ i, i < 108 → σ' i = σ i) : cw σ' P n H I J kp len a X := by
  obtain ⟨h1, fb, bo, tp, bg, ln, h2⟩ := h
  exact ⟨cwG_of h1 (fun i _ hi => f i hi), fb, bo, tp, bg, ln, scs_of h2 (fun i _ hi => f i (by omega))⟩
theorem cw_0 (h : cw σ P n H I J kp len a X) : cw0 σ P n H I J kp len a X := by
  obtain ⟨h1, fb, bo, tp, bg, ln, h2⟩ := h
  exact ⟨h1, ⟨fb, bo, tp, bg, ln, _, _, h2.1⟩, h2.2.1⟩
/-- the cells that a call of the player meets first -/
theorem cw0_hd (h : cw0 σ P n H I J kp len a X) : σ 3 = some (.inr (0, [.ref 4, .ref 5, .ref 17, .ref 18, .ref 76, .int (nI kp), .ref 77, .int (nI len), .ref 78, .ref 81])) ∧ ab_isO 1 (σ 4) = true ∧ σ 5 = some (.inr (2, [.ref 6, .ref 8, .ref 10])) ∧ σ 6 = some (.inr (3, [.int (nI 24), .int (nI 5), .ref 7, .int (nI P.1)])) ∧ σ 8 = some (.inr (3, [.int (nI 11), .int (nI 3), .ref 9, .int (nI P.2.1)])) ∧ σ 10 = some (.inr (3, [.int (nI 12), .int (nI 3), .ref 11, .int (nI P.2.2.1)])) ∧ ab_isO 5 (σ 18) = true ∧ σ 17 = X := by
  obtain ⟨⟨h1, h2, h3, h4, ⟨q, h5⟩, h6⟩, ⟨fb, bo, tp, bg, ln, m, e, h7⟩, h8⟩ := h
  have o : ab_isO 1 (σ 4) = true := by rw [← h7, scw_0]; rfl
  exact ⟨h3, o, h8.1, tn_hd h8.2.1, tn_hd h8.2.2.1, tn_hd h8.2.2.2, by rw [h5.1]; rfl, h4⟩
/-- a table of the piece is written -/
theorem cw0_bars {k : Nat} {f : Nat → Nat} (h : cw0 σ P n H I J kp len a X) : cw0 (tnw σ 6 24 5 k f) (k, P.2.1, P.2.2.1, f, P.2.2.2.2.1, P.2.2.2.2.2) n H I J kp len a X := by
  obtain ⟨h1, ⟨fb, bo, tp, bg, ln, m, e, h2⟩, h3, h4, h5, h6⟩ := h
  have h2' : scw (tnw σ 6 24 5 k f) 4 fb bo tp bg ln m e = tnw σ 6 24 5 k f := scw_of2 h2 (fun i hi => tnw_ne (by omega) (by omega))
  refine ⟨cwG_of h1 (fun i hi hi2 => tnw_ne (by omega) (by omega)), ⟨fb, bo, tp, bg, ln, m, e, h2'⟩, by rw [tnw_ne (by omega) (by omega)]; exact h3, tnw_tn, tn_ne h5 (by omega) (by omega) (by omega), tn_ne h6 (by omega) (by omega) (by omega)⟩
theorem cw0_marks {k : Nat} {f : Nat → Nat} (h : cw0 σ P n H I J kp len a X) : cw0 (tnw σ 8 11 3 k f) (P.1, k, P.2.2.1, P.2.2.2.1, f, P.2.2.2.2.2) n H I J kp len a X := by
  obtain ⟨h1, ⟨fb, bo, tp, bg, ln, m, e, h2⟩, h3, h4, h5, h6⟩ := h
  have h2' : scw (tnw σ 8 11 3 k f) 4 fb bo tp bg ln m e = tnw σ 8 11 3 k f := scw_of2 h2 (fun i hi => tnw_ne (by omega) (by omega))
  refine ⟨cwG_of h1 (fun i hi hi2 => tnw_ne (by omega) (by omega)), ⟨fb, bo, tp, bg, ln, m, e, h2'⟩, by rw [tnw_ne (by omega) (by omega)]; exact h3, tn_ne h4 (by omega) (by omega) (by omega), tnw_tn, tn_ne h6 (by omega) (by omega) (by omega)⟩
theorem cw0_cues {k : Nat} {f : Nat → Nat} (h : cw0 σ P n H I J kp len a X) : cw0 (tnw σ 10 12 3 k f) (P.1, P.2.1, k, P.2.2.2.1, P.2.2.2.2.1, f) n H I J kp len a X := by
  obtain ⟨h1, ⟨fb, bo, tp, bg, ln, m, e, h2⟩, h3, h4, h5, h6⟩ := h
  have h2' : scw (tnw σ 10 12 3 k f) 4 fb bo tp bg ln m e = tnw σ 10 12 3 k f := scw_of2 h2 (fun i hi => tnw_ne (by omega) (by omega))
  refine ⟨cwG_of h1 (fun i hi hi2 => tnw_ne (by omega) (by omega)), ⟨fb, bo, tp, bg, ln, m, e, h2'⟩, by rw [tnw_ne (by omega) (by omega)]; exact h3, tn_ne h4 (by omega) (by omega) (by omega), tn_ne h5 (by omega) (by omega) (by omega), tnw_tn⟩
/-- how many states there are after one more -/
def s_n1 (n : Nat) : Nat := if n = 8 then 8 else n + 1
/-- H' is H with P behind it (the oldest of eight is gone) -/
def s_rem (n : Nat) (H H' : Nat → pv) (P : pv) : Prop := (∀ j, j < (if n = 8 then 7 else n) → H' j = H (if n = 8 then j + 1 else j)) ∧ eqv (H' (if n = 8 then 7 else n)) P
theorem cw0_remember (h : cw0 σ P n H I J kp len a X) (hP : pfit P) : ∃ σ' H', ab_Cl 60 [.ref 18, .ref 5] (g, σ) = some (.inl none, (g, σ')) ∧ cw0 σ' P (s_n1 n) H' I J kp len a X ∧ s_rem n H H' P ∧ ∀ i, i < 18 ∨ 76 ≤ i → σ' i = σ i := by
  obtain ⟨⟨h1, h2, h3, h4, ⟨q, h5⟩, h6, h7, h8, h9, ⟨tk, cm, w, x, k, ff, h10, h11⟩, Q, fb, bo, tp, bg, ln, m, e, h12, h13⟩, ⟨fb', bo', tp', bg', ln', m', e', h14⟩, h15⟩ := h
  obtain ⟨σ', q', H', c, k1, k2, k3, k4⟩ := sp_remember (g := g) h5 h15 hP (by omega)
  refine ⟨σ', H', c, ⟨⟨by rw [k4 1 (by omega)]; exact h1, by rw [k4 2 (by omega)]; exact h2, by rw [k4 3 (by omega)]; exact h3, by rw [k4 17 (by omega)]; exact h4, ⟨q', k1⟩, by rw [k4 76 (by omega)]; exact h6, pcs_of h7 (fun i hi hi2 => k4 i (by omega)), pcs_of h8 (fun i hi hi2 => k4 i (by omega)), by rw [k4 77 (by omega)]; exact h9, ⟨tk, cm, w, x, k, ff, by rw [k4 78 (by omega)]; exact h10, tn_of h11 (k4 79 (by omega)) (k4 80 (by omega))⟩, Q, fb, bo, tp, bg, ln, m, e, scw_of h12 (fun i hi hi2 => k4 i (by omega)), pcs_of h13 (fun i hi hi2 => k4 i (by omega))⟩, ⟨fb', bo', tp', bg', ln', m', e', scw_of h14 (fun i hi hi2 => k4 i (by omega))⟩, pcs_of h15 (fun i hi hi2 => k4 i (by omega))⟩, ⟨k2, k3⟩, k4⟩
/-- the cues that stay -/
def s_flt (P : pv) (c' : Nat) (C' : Nat → Nat) : Prop := c' ≤ 12 ∧ cl C' c' = (cl P.2.2.2.2.2 P.2.2.1).filter (fun x => decide (x.1 < s_fb P.2.2.2.1 P.1))
theorem cw0_settle (h : cw0 σ P n H I J kp len a X) (hB : okB P.2.2.2.1 P.1) (hM : okM P.2.2.2.2.1 P.2.1) (hc : P.2.2.1 ≤ 12) (hC : ∀ j, j < P.2.2.1 → P.2.2.2.2.2 (3 * j) < 100000) : ∃ σ' c' C', ab_Cl 27 [.ref 4] (g, σ) = some (.inl none, (g, σ')) ∧ cw σ' (P.1, P.2.1, c', P.2.2.2.1, P.2.2.2.2.1, C') n H I J kp len a X ∧ s_flt P c' C' ∧ ∀ i, i < 4 ∨ 17 ≤ i → σ' i = σ i := by
  obtain ⟨h1, ⟨fb, bo, tp, bg, ln, m, e, h2⟩, h3⟩ := h
  obtain ⟨σ', c', C', fb', bo', tp', bg', ln', c, k1, k2, k3, k4⟩ := sp_settle (g := g) h2 h3 hB hM hc hC
  exact ⟨σ', c', C', c, ⟨cwG_of h1 (fun i hi _ => k4 i (by omega)), fb', bo', tp', bg', ln', k1⟩, ⟨k2, k3⟩, fun i hi => k4 i (by omega)⟩
end
