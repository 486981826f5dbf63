/-! ===== playing ===== -/
/-- a playback's fields: first beat, count-in, speed; count-in heard, next beat, next click; on, clock; clicks, loud ones, cues heard -/
def pbO (F c v ch nb nc on ck hc hl hq : Nat) : Option ab_C := some (.inr (4, [.int (nI F), .int (nI c), .int (nI v), .int (nI ch), .int (nI nb), .int (nI nc), .int (nI on), .long (lN ck), .int (nI hc), .int (nI hl), .int (nI hq)]))
theorem b_pfit1 : ab_fit 2 (.int (nI 1)) = true := Eq.trans rfl rfl
theorem b_pfit0 : ab_fit 2 (.int (nI 0)) = true := Eq.trans rfl rfl
/-- the played time of a time of the piece -/
def s_pd (P : pv) (F c v t : Nat) : Nat := (c * s_ln P.2.2.2.1 P.2.2.2.2.1 P.2.1 P.1 F + t - s_bg P.2.2.2.1 P.2.2.2.2.1 P.2.1 P.1 F) * 100 / v
theorem lN_neg {a b : Nat} (h : a < b) (hb : b < 4611686018427387904) : (lN 0 < lN a - lN b) = False := eq_false (fun z => by
  have z := Int64.lt_iff_toInt_lt.mp z
  rw [Int64.toInt_sub, pk_lT (by omega), pk_lT (by omega), pk_lT (by omega), bm64 (by omega) (by omega)] at z
  omega)
theorem s_bg_step {B M : Nat → Nat} {m b j : Nat} (hB : okB B b) (hj : j + 1 < s_fb B b) : s_bg B M m b j + s_ln B M m b j ≤ s_bg B M m b (j + 1) := by
  obtain ⟨h1, h2, h3⟩ := s_bo_spec (B := B) (b := b) (j := j) (by omega)
  have e : s_fb B (s_bo B b j + 1) = s_fb B (s_bo B b j) + B (5 * s_bo B b j) := rfl
  have m1 := s_ib_mono (B := B) (M := M) (m := m) (i := s_bo B b j) (show j - s_fb B (s_bo B b j) ≤ j - s_fb B (s_bo B b j) + 1 by omega)
  have m2 := s_ib_mono (B := B) (M := M) (m := m) (i := s_bo B b j) (show j - s_fb B (s_bo B b j) + 1 ≤ B (5 * s_bo B b j) by omega)
  by_cases z : j + 1 < s_fb B (s_bo B b j + 1)
  · have e2 := s_bo_eq (B := B) (b := b) (i := s_bo B b j) (j := j + 1) h1 (by omega) z
    unfold s_bg s_ln
    rw [e2, show j + 1 - s_fb B (s_bo B b j) = j - s_fb B (s_bo B b j) + 1 by omega]
    omega
  · have y : j + 1 = s_fb B (s_bo B b j + 1) := by omega
    have w : s_bo B b j + 1 < b := by
      by_cases w : s_bo B b j + 1 < b
      · exact w
      · rw [show s_bo B b j + 1 = b by omega] at y
        omega
    have f := s_at_first (M := M) (m := m) hB w
    rw [y, f]
    have t1 : s_tm B M m (s_bo B b j + 1) = s_tm B M m (s_bo B b j) + s_ib B M m (s_bo B b j) (B (5 * s_bo B b j)) + 1000 * B (5 * s_bo B b j + 3) := rfl
    rw [t1]
    unfold s_bg s_ln
    omega
theorem s_bg_mono {B M : Nat → Nat} {m b i : Nat} (hB : okB B b) : ∀ {j : Nat}, i ≤ j → j < s_fb B b → s_bg B M m b i ≤ s_bg B M m b j := by
  intro j
  induction j with
  | zero => intro h _; rw [show i = 0 by omega]; exact Nat.le_refl _
  | succ j ih =>
    intro h hj
    by_cases z : i = j + 1
    · rw [z]; exact Nat.le_refl _
    · have h1 := ih (by omega) (by omega)
      have h2 := s_bg_step (M := M) (m := m) hB hj
      omega
section
variable {g : ab_G} {σ : ab_S} {s : Nat} {fb bo tp bg ln : Nat → Nat} {P : pv} {b F c v ch nb nc on ck hc hl hq : Nat}
/-- when a cue is given -/
def s_ct (P : pv) (F c v i : Nat) : Nat := s_pd P F c v (s_cp P i) - P.2.2.2.2.2 (3 * i + 2) * 1000
end
