/-! ===== the piece's times, as numbers ===== -/
/-- the first beat of bar i -/
def s_fb (B : Nat → Nat) : Nat → Nat
  | 0 => 0
  | i + 1 => s_fb B i + B (5 * i)
/-- the latest of k marks that isn't behind beat i, and 1; 0 for none -/
def s_cnt (M : Nat → Nat) (i : Nat) : Nat → Nat
  | 0 => 0
  | k + 1 => if M (3 * k) ≤ i then k + 1 else s_cnt M i k
/-- the tempo that mark f gives at beat i -/
def s_un (M : Nat → Nat) (m f i : Nat) : Nat := if M (3 * f + 2) = 0 ∨ m ≤ f + 1 then M (3 * f + 1) else ((M (3 * f + 1) : Int) + Int.tdiv (((M (3 * (f + 1) + 1) : Int) - M (3 * f + 1)) * ((i : Int) - M (3 * f))) ((M (3 * (f + 1)) : Int) - M (3 * f))).toNat
def s_tp (M : Nat → Nat) (m i : Nat) : Nat := if s_cnt M i m = 0 then 1200 else s_un M m (s_cnt M i m - 1) i
def s_nat (M : Nat → Nat) (m i : Nat) : Nat := 600000000 / s_tp M m i
def s_ns (M : Nat → Nat) (m a : Nat) : Nat → Nat
  | 0 => 0
  | k + 1 => s_ns M m a k + s_nat M m (a + k)
/-- where beat k of bar i is, behind the bar's beginning -/
def s_ib (B M : Nat → Nat) (m i k : Nat) : Nat := if B (5 * i + 2) = 0 then s_ns M m (s_fb B i) k else 1000 * B (5 * i + 2) * s_ns M m (s_fb B i) k / s_ns M m (s_fb B i) (B (5 * i))
/-- where bar i begins -/
def s_tm (B M : Nat → Nat) (m : Nat) : Nat → Nat
  | 0 => 0
  | i + 1 => s_tm B M m i + s_ib B M m i (B (5 * i)) + 1000 * B (5 * i + 3)
/-- the bar of a beat, of b bars -/
def s_bo (B : Nat → Nat) : Nat → Nat → Nat
  | 0, _ => 0
  | b + 1, j => if s_fb B b ≤ j then b else s_bo B b j
def s_bg (B M : Nat → Nat) (m b j : Nat) : Nat := s_tm B M m (s_bo B b j) + s_ib B M m (s_bo B b j) (j - s_fb B (s_bo B b j))
def s_ln (B M : Nat → Nat) (m b j : Nat) : Nat := s_ib B M m (s_bo B b j) (j - s_fb B (s_bo B b j) + 1) - s_ib B M m (s_bo B b j) (j - s_fb B (s_bo B b j))
/-- bars as they are allowed -/
def okB (B : Nat → Nat) (b : Nat) : Prop := b ≤ 24 ∧ ∀ i, i < b → 1 ≤ B (5 * i) ∧ B (5 * i) ≤ 12 ∧ 1 ≤ B (5 * i + 1) ∧ B (5 * i + 1) ≤ 8 ∧ (B (5 * i + 2) = 0 ∨ 100 ≤ B (5 * i + 2) ∧ B (5 * i + 2) ≤ 60000) ∧ B (5 * i + 3) ≤ 20000 ∧ B (5 * i + 4) < 4096
/-- marks -/
def okM (M : Nat → Nat) (m : Nat) : Prop := m ≤ 11 ∧ (∀ i, i < m → M (3 * i) < 288 ∧ 200 ≤ M (3 * i + 1) ∧ M (3 * i + 1) ≤ 4000 ∧ M (3 * i + 2) ≤ 1) ∧ ∀ i, i + 1 < m → M (3 * i) < M (3 * (i + 1))
/-- cues, of n beats -/
def okC (C : Nat → Nat) (c n : Nat) : Prop := c ≤ 12 ∧ ∀ i, i < c → C (3 * i) < n ∧ C (3 * i + 1) < 480 ∧ C (3 * i + 2) ≤ 5000
theorem s_fb_le {B : Nat → Nat} {b : Nat} (h : okB B b) : ∀ i, i ≤ b → s_fb B i ≤ 12 * i
  | 0, _ => Nat.le_refl 0
  | i + 1, hi => by
    have h1 := s_fb_le h i (by omega)
    have h2 := h.2 i (by omega)
    unfold s_fb
    omega
theorem s_fb_288 {B : Nat → Nat} {b i : Nat} (h : okB B b) (hi : i ≤ b) : s_fb B i ≤ 288 := by
  have h1 := s_fb_le h i hi
  have h2 := h.1
  omega
theorem s_fb_mono {B : Nat → Nat} {i : Nat} : ∀ {j : Nat}, i ≤ j → s_fb B i ≤ s_fb B j := by
  intro j
  induction j with
  | zero => intro h; rw [show i = 0 by omega]; exact Nat.le_refl _
  | succ j ih =>
    intro h
    by_cases e : i = j + 1
    · rw [e]; exact Nat.le_refl _
    · have := ih (by omega)
      show s_fb B i ≤ s_fb B j + B (5 * j)
      omega
theorem s_bo_spec {B : Nat → Nat} {b j : Nat} (hj : j < s_fb B b) : s_bo B b j < b ∧ s_fb B (s_bo B b j) ≤ j ∧ j < s_fb B (s_bo B b j + 1) := by
  induction b with
  | zero => exact absurd hj (Nat.not_lt_zero j)
  | succ b ih =>
    unfold s_bo
    by_cases h : s_fb B b ≤ j
    · rw [if_pos h]; exact ⟨by omega, h, hj⟩
    · rw [if_neg h]
      have := ih (by omega)
      exact ⟨by omega, this.2⟩
theorem s_bo_eq {B : Nat → Nat} {b i j : Nat} (hi : i < b) (h1 : s_fb B i ≤ j) (h2 : j < s_fb B (i + 1)) : s_bo B b j = i := by
  induction b with
  | zero => omega
  | succ b ih =>
    unfold s_bo
    by_cases e : i = b
    · rw [if_pos (by rw [← e]; exact h1)]; exact e.symm
    · have := s_fb_mono (B := B) (show i + 1 ≤ b by omega)
      rw [if_neg (by omega)]
      exact ih (by omega)
theorem s_cnt_le {M : Nat → Nat} {i : Nat} : ∀ {k : Nat}, s_cnt M i k ≤ k
  | 0 => Nat.le_refl 0
  | k + 1 => by
    unfold s_cnt
    split
    · omega
    · have := s_cnt_le (M := M) (i := i) (k := k)
      omega
theorem okM_lt {M : Nat → Nat} {m : Nat} (h : okM M m) {i : Nat} : ∀ {j : Nat}, i < j → j < m → M (3 * i) < M (3 * j) := by
  intro j
  induction j with
  | zero => intro h1; omega
  | succ j ih =>
    intro h1 h2
    have h3 := h.2.2 j h2
    by_cases e : i = j
    · rw [e]; exact h3
    · exact Nat.lt_trans (ih (by omega) (by omega)) h3
/-- the marks ahead of the count are at the beat or ahead of it, the others behind -/
theorem s_cnt_spec {M : Nat → Nat} {m i : Nat} (h : okM M m) : ∀ k, k ≤ m → (∀ j, j < s_cnt M i k → M (3 * j) ≤ i) ∧ (∀ j, s_cnt M i k ≤ j → j < k → i < M (3 * j)) := by
  intro k
  induction k with
  | zero => exact fun _ => ⟨fun j hj => absurd hj (Nat.not_lt_zero j), fun j _ hj => absurd hj (Nat.not_lt_zero j)⟩
  | succ k ih =>
    intro hk
    unfold s_cnt
    by_cases e : M (3 * k) ≤ i
    · rw [if_pos e]
      refine ⟨fun j hj => ?_, fun j h1 h2 => by omega⟩
      by_cases z : j = k
      · rw [z]; exact e
      · have := okM_lt h (i := j) (j := k) (by omega) (by omega)
        omega
    · rw [if_neg e]
      have h0 := ih (by omega)
      refine ⟨h0.1, fun j h1 h2 => ?_⟩
      by_cases z : j = k
      · rw [z]; omega
      · exact h0.2 j h1 (by omega)
theorem s_cnt_eq {M : Nat → Nat} {m i c : Nat} (h : okM M m) (hc : c ≤ m) (h1 : ∀ j, j < c → M (3 * j) ≤ i) (h2 : c = m ∨ i < M (3 * c)) : s_cnt M i m = c := by
  have h3 := s_cnt_spec (i := i) h m (Nat.le_refl m)
  have h4 := s_cnt_le (M := M) (i := i) (k := m)
  by_cases a : s_cnt M i m < c
  · have := h3.2 _ (Nat.le_refl _) (by omega)
    have := h1 _ a
    omega
  · by_cases b : c < s_cnt M i m
    · have := h3.1 c b
      omega
    · omega
/-- between two tempos -/
theorem tdiv_mid {a b x d : Int} (hx : 0 ≤ x) (hd : x ≤ d) (h0 : 0 < d) : (a ≤ a + Int.tdiv ((b - a) * x) d ∧ a + Int.tdiv ((b - a) * x) d ≤ b) ∨ (b ≤ a + Int.tdiv ((b - a) * x) d ∧ a + Int.tdiv ((b - a) * x) d ≤ a) := by
  by_cases h : a ≤ b
  · left
    have e : 0 ≤ (b - a) * x := Int.mul_nonneg (by omega) hx
    rw [Int.tdiv_eq_ediv_of_nonneg e]
    have h1 : 0 ≤ (b - a) * x / d := Int.ediv_nonneg e (by omega)
    have h2 : (b - a) * x / d ≤ b - a := by
      have : (b - a) * x ≤ (b - a) * d := Int.mul_le_mul_of_nonneg_left hd (by omega)
      exact Int.le_trans (Int.ediv_le_ediv h0 this) (by rw [Int.mul_ediv_cancel _ (by omega)]; exact Int.le_refl _)
    omega
  · right
    have e : 0 ≤ (a - b) * x := Int.mul_nonneg (by omega) hx
    have e2 : (b - a) * x = -((a - b) * x) := by rw [← Int.neg_mul]; congr 1; omega
    rw [e2, Int.neg_tdiv, Int.tdiv_eq_ediv_of_nonneg e]
    have h1 : 0 ≤ (a - b) * x / d := Int.ediv_nonneg e (by omega)
    have h2 : (a - b) * x / d ≤ a - b := by
      have : (a - b) * x ≤ (a - b) * d := Int.mul_le_mul_of_nonneg_left hd (by omega)
      exact Int.le_trans (Int.ediv_le_ediv h0 this) (by rw [Int.mul_ediv_cancel _ (by omega)]; exact Int.le_refl _)
    omega
theorem s_un_rg {M : Nat → Nat} {m f i : Nat} (h : okM M m) (hf : f < m) (h1 : M (3 * f) ≤ i) (h2 : f + 1 < m → i < M (3 * (f + 1))) : 200 ≤ s_un M m f i ∧ s_un M m f i ≤ 4000 := by
  have a := h.2.1 f hf
  unfold s_un
  split
  · omega
  · rename_i z
    have b := h.2.1 (f + 1) (by omega)
    have c := h2 (by omega)
    have t := tdiv_mid (a := (M (3 * f + 1) : Int)) (b := (M (3 * (f + 1) + 1) : Int)) (x := (i : Int) - M (3 * f)) (d := (M (3 * (f + 1)) : Int) - M (3 * f)) (by omega) (by omega) (by omega)
    omega
theorem s_tp_rg {M : Nat → Nat} {m i : Nat} (h : okM M m) : 200 ≤ s_tp M m i ∧ s_tp M m i ≤ 4000 := by
  unfold s_tp
  have h3 := s_cnt_spec (i := i) h m (Nat.le_refl m)
  have h4 := s_cnt_le (M := M) (i := i) (k := m)
  split
  · omega
  · refine s_un_rg h (by omega) (h3.1 _ (by omega)) (fun z => ?_)
    exact h3.2 _ (by omega) z
theorem s_nat_rg {M : Nat → Nat} {m i : Nat} (h : okM M m) : 150000 ≤ s_nat M m i ∧ s_nat M m i ≤ 3000000 := by
  have t := s_tp_rg (i := i) h
  unfold s_nat
  have a : 600000000 / 4000 ≤ 600000000 / s_tp M m i := Nat.div_le_div_left t.2 (by omega)
  have b : 600000000 / s_tp M m i ≤ 600000000 / 200 := Nat.div_le_div_left t.1 (by omega)
  omega
theorem s_ns_rg {M : Nat → Nat} {m a : Nat} (h : okM M m) : ∀ k, 150000 * k ≤ s_ns M m a k ∧ s_ns M m a k ≤ 3000000 * k
  | 0 => ⟨Nat.le_refl 0, Nat.le_refl 0⟩
  | k + 1 => by
    have h1 := s_ns_rg (a := a) h k
    have h2 := s_nat_rg (i := a + k) h
    unfold s_ns
    omega
theorem s_ns_mono {M : Nat → Nat} {m a k : Nat} : ∀ {l : Nat}, k ≤ l → s_ns M m a k ≤ s_ns M m a l := by
  intro l
  induction l with
  | zero => intro h; rw [show k = 0 by omega]; exact Nat.le_refl _
  | succ l ih =>
    intro h
    by_cases e : k = l + 1
    · rw [e]; exact Nat.le_refl _
    · have := ih (by omega)
      show s_ns M m a k ≤ s_ns M m a l + s_nat M m (a + l)
      omega
theorem s_ib_mono {B M : Nat → Nat} {m i k l : Nat} (h : k ≤ l) : s_ib B M m i k ≤ s_ib B M m i l := by
  unfold s_ib
  split
  · exact s_ns_mono h
  · exact Nat.div_le_div_right (Nat.mul_le_mul_left _ (s_ns_mono h))
theorem s_ib_0 {B M : Nat → Nat} {m i : Nat} : s_ib B M m i 0 = 0 := by
  unfold s_ib s_ns
  split
  · rfl
  · rw [Nat.mul_zero, Nat.zero_div]
/-- a bar's length -/
theorem s_ib_all {B M : Nat → Nat} {m i b : Nat} (h : okM M m) (hB : okB B b) (hi : i < b) : s_ib B M m i (B (5 * i)) = if B (5 * i + 2) = 0 then s_ns M m (s_fb B i) (B (5 * i)) else 1000 * B (5 * i + 2) := by
  have h1 := (s_ns_rg (a := s_fb B i) h (B (5 * i))).1
  have h2 := hB.2 i hi
  unfold s_ib
  split
  · rfl
  · exact Nat.mul_div_cancel _ (by omega)
theorem s_ib_rg {B M : Nat → Nat} {m i b k : Nat} (h : okM M m) (hB : okB B b) (hi : i < b) (hk : k ≤ B (5 * i)) : s_ib B M m i k ≤ 60000000 := by
  have h1 := s_ib_mono (B := B) (M := M) (m := m) (i := i) hk
  rw [s_ib_all h hB hi] at h1
  have h2 := hB.2 i hi
  have h3 := (s_ns_rg (a := s_fb B i) h (B (5 * i))).2
  split at h1 <;> omega
theorem s_tm_rg {B M : Nat → Nat} {m b : Nat} (h : okM M m) (hB : okB B b) : ∀ i, i ≤ b → s_tm B M m i ≤ 80000000 * i
  | 0, _ => Nat.le_refl 0
  | i + 1, hi => by
    have h1 := s_tm_rg h hB i (by omega)
    have h2 := s_ib_rg h hB (i := i) (by omega) (Nat.le_refl _)
    have h3 := hB.2 i (by omega)
    unfold s_tm
    omega
