/-! ===== each call of both: what is read ===== -/
theorem at_split {t : Int64} {E : Nat} (hE : E < 9223372036854775807) : (t < 0 ∨ ¬ t < 0 ∧ lN E ≤ t) ∨ ∃ k, k < E ∧ t = lN k := by
  by_cases z : t < 0
  · exact Or.inl (Or.inl z)
  · obtain ⟨k, hk, e⟩ := pk_lOf z
    by_cases l : k < E
    · exact Or.inr ⟨k, l, e⟩
    · refine Or.inl (Or.inr ⟨z, ?_⟩)
      rw [e]
      exact (pk_lLE (by omega) (by omega)).mpr (by omega)
theorem s_tm_at {P : pv} (h : okQ P) : s_tm P.2.2.2.1 P.2.2.2.2.1 P.2.1 P.1 < 9223372036854775807 := by
  have tm := s_tm_rg h.1.2.1 h.1.1 P.1 (Nat.le_refl _)
  have b := h.1.1.1
  omega
section
variable {S : ab_C} {N : Nat} {g : ab_G} {σ σ' : ab_S} {F : Nat → Int64} {P P' : pv} {n n' : Nat} {H H' : Nat → pv} {I J I' J' : pv} {kp len kp' len' : Nat} {a a' : Nat → Nat} {X X' : Option ab_C} {th : Nat} {Z A Hi Im b Z' A' Hi' Im' b' : Nat → Nat} {Y Y' : mY} {L L' : mL} {R R' : mR} {hs hs' : Int64}
theorem st_bar {x y : Int32} (h : LJ S N g σ F P n H I J kp len a X th Z A Hi Im b Y L R hs) : stp Value.int Int32.toInt64 S N (g, σ) 210 [.ref 3, .int x, .int y, .ref 118] 169 [.ref 108, .int x, .int y] := by
  obtain ⟨-, -, -, -, hc, -, hz, hQ, hH, hI, hB, hY⟩ := id h
  have b24 := hQ.1.1.1
  by_cases hx : inX x P.1
  · obtain ⟨i, hi, rfl⟩ := hx
    by_cases hy : inR y 0 5
    · obtain ⟨y, -, y2, rfl⟩ := hy
      exact st_ans h (fun _ _ => rfl) (w_bar (cw_o3 hc) (c_bar hc hQ.1 hi y2)) (m_bar hz hQ.1.1 hi y2) hc hz hQ hH hI hB (plR_s hY)
    · exact st_ref h (w_bar_1 (cw_o3 hc) (c_barY hc hQ.1 hi hy)) hc (fun _ _ => rfl) ⟨by omega, by omega⟩ (m_barY hz b24 hi hy)
  · exact st_ref h (w_bar_2 (cw_o3 hc) (c_barI hc hQ.1 hx)) hc (fun _ _ => rfl) ⟨by omega, by omega⟩ (m_barI hz b24 hx)
theorem st_beat {x y : Int32} (h : LJ S N g σ F P n H I J kp len a X th Z A Hi Im b Y L R hs) : stp Value.long (fun q => q) S N (g, σ) 211 [.ref 3, .int x, .int y, .ref 118] 171 [.ref 108, .int x, .int y] := by
  obtain ⟨-, -, -, -, hc, -, hz, hQ, hH, hI, hB, hY⟩ := id h
  by_cases hx : inX x (s_fb P.2.2.2.1 P.1)
  · obtain ⟨i, hi, rfl⟩ := hx
    by_cases hy : inR y 0 6
    · obtain ⟨y, -, y2, rfl⟩ := hy
      obtain ⟨L', -, m⟩ := m_beat (g := g) (σ := ab_up σ 118 (some (.inl (1, .inr (.inl (ab_up F 0 (lN (s_b7 P i y)))))))) (th := th) (A := A) (Hi := Hi) (Im := Im) (b := b) (st := n) (kp := kp) (len := len) (Y := Y) (L := L) (R := R) (hs := hs) hz hQ.1 hi y2
      exact st_ans h (fun _ _ => rfl) (w_beat (cw_o3 hc) (c_beat hc hQ.1 hi y2)) m hc hz hQ hH hI hB (plR_s hY)
    · exact st_ref h (w_beat_1 (cw_o3 hc) (c_beatY hc hQ.1 hi hy)) hc (fun _ _ => rfl) ⟨by omega, by omega⟩ (m_beatY hz hQ.1.1 hi hy)
  · exact st_ref h (w_beat_2 (cw_o3 hc) (c_beatI hc hQ.1 hx)) hc (fun _ _ => rfl) ⟨by omega, by omega⟩ (m_beatI hz hQ.1.1 hx)
theorem st_click {x y : Int32} (h : LJ S N g σ F P n H I J kp len a X th Z A Hi Im b Y L R hs) : stp Value.long (fun q => q) S N (g, σ) 212 [.ref 3, .int x, .int y, .ref 118] 172 [.ref 108, .int x, .int y] := by
  obtain ⟨-, -, -, -, hc, -, hz, hQ, hH, hI, hB, hY⟩ := id h
  by_cases hx : inX x (s_fb P.2.2.2.1 P.1)
  · obtain ⟨i, hi, rfl⟩ := hx
    by_cases hy : inX y (s_dv P i)
    · obtain ⟨y, y2, rfl⟩ := hy
      obtain ⟨L', -, m⟩ := m_clickT (g := g) (σ := ab_up σ 118 (some (.inl (1, .inr (.inl (ab_up F 0 (lN (s_ck P i y)))))))) (th := th) (A := A) (Hi := Hi) (Im := Im) (b := b) (st := n) (kp := kp) (len := len) (Y := Y) (L := L) (R := R) (hs := hs) hz hQ.1 hi y2
      exact st_ans h (fun _ _ => rfl) (w_click (cw_o3 hc) (c_click hc hQ.1 hi y2)) m hc hz hQ hH hI hB (plR_s hY)
    · obtain ⟨L', -, m⟩ := m_clickY (g := ab_th g) (σ := σ) (th := th) (A := A) (Hi := Hi) (Im := Im) (b := b) (st := n) (kp := kp) (len := len) (Y := Y) (L := L) (R := R) (hs := hs) hz hQ.1 hi hy
      exact st_ref h (w_click_2 (cw_o3 hc) (c_clickY hc hQ.1 hi hy)) hc (fun _ _ => rfl) ⟨by omega, by omega⟩ m
  · obtain ⟨L', -, m⟩ := m_clickI (y := y) (g := ab_th g) (σ := σ) (th := th) (A := A) (Hi := Hi) (Im := Im) (b := b) (st := n) (kp := kp) (len := len) (Y := Y) (L := L) (R := R) (hs := hs) hz hQ.1 hx
    exact st_ref h (w_click_2 (cw_o3 hc) (c_clickI hc hQ.1 hx)) hc (fun _ _ => rfl) ⟨by omega, by omega⟩ m
theorem st_tempo {x y : Int32} (h : LJ S N g σ F P n H I J kp len a X th Z A Hi Im b Y L R hs) : stp Value.int Int32.toInt64 S N (g, σ) 213 [.ref 3, .int x, .int y, .ref 118] 173 [.ref 108, .int x, .int y] := by
  obtain ⟨-, -, -, -, hc, -, hz, hQ, hH, hI, hB, hY⟩ := id h
  have m11 := hQ.1.2.1.1
  by_cases hx : inX x P.2.1
  · obtain ⟨i, hi, rfl⟩ := hx
    by_cases hy : inR y 0 2
    · obtain ⟨y, -, y2, rfl⟩ := hy
      exact st_ans h (fun _ _ => rfl) (w_tempo (cw_o3 hc) (c_tempo hc hQ.1 hi y2)) (m_tempo hz m11 hi y2) hc hz hQ hH hI hB (plR_s hY)
    · exact st_ref h (w_tempo_1 (cw_o3 hc) (c_tempoY hc hQ.1 hi hy)) hc (fun _ _ => rfl) ⟨by omega, by omega⟩ (m_tempoY hz m11 hi hy)
  · exact st_ref h (w_tempo_2 (cw_o3 hc) (c_tempoI hc hQ.1 hx)) hc (fun _ _ => rfl) ⟨by omega, by omega⟩ (m_tempoI hz m11 hx)
theorem st_cueAt {x y : Int32} (h : LJ S N g σ F P n H I J kp len a X th Z A Hi Im b Y L R hs) : stp Value.long (fun q => q) S N (g, σ) 214 [.ref 3, .int x, .int y, .ref 118] 176 [.ref 108, .int x, .int y] := by
  obtain ⟨-, -, -, -, hc, -, hz, hQ, hH, hI, hB, hY⟩ := id h
  have c12 := hQ.1.2.2.1
  by_cases hx : inX x P.2.2.1
  · obtain ⟨i, hi, rfl⟩ := hx
    by_cases hy : inR y 0 4
    · obtain ⟨y, -, y2, rfl⟩ := hy
      obtain ⟨L', -, m⟩ := m_cueAt (g := g) (σ := ab_up σ 118 (some (.inl (1, .inr (.inl (ab_up F 0 (lN (s_q5 P i y)))))))) (th := th) (A := A) (Hi := Hi) (Im := Im) (b := b) (st := n) (kp := kp) (len := len) (Y := Y) (L := L) (R := R) (hs := hs) hz hQ.1 hi y2
      exact st_ans h (fun _ _ => rfl) (w_cueAt (cw_o3 hc) (c_cueAt hc hQ.1 hi y2)) m hc hz hQ hH hI hB (plR_s hY)
    · exact st_ref h (w_cueAt_1 (cw_o3 hc) (c_cueAtY hc hQ.1 hi hy)) hc (fun _ _ => rfl) ⟨by omega, by omega⟩ (m_cueAtY hz c12 hi hy)
  · exact st_ref h (w_cueAt_2 (cw_o3 hc) (c_cueAtI hc hQ.1 hx)) hc (fun _ _ => rfl) ⟨by omega, by omega⟩ (m_cueAtI hz c12 hx)
theorem st_at {t : Int64} {x : Int32} (h : LJ S N g σ F P n H I J kp len a X th Z A Hi Im b Y L R hs) : stp Value.int Int32.toInt64 S N (g, σ) 215 [.ref 3, .long t, .int x, .ref 118] 178 [.ref 108, .long t, .int x] := by
  obtain ⟨-, -, -, -, hc, -, hz, hQ, hH, hI, hB, hY⟩ := id h
  by_cases hx : inR x 0 2
  · obtain ⟨x, -, x2, rfl⟩ := hx
    rcases at_split (t := t) (E := s_tm P.2.2.2.1 P.2.2.2.2.1 P.2.1 P.1) (s_tm_at hQ) with ht | ⟨t, ht, rfl⟩
    · obtain ⟨L', -, m⟩ := m_atN (g := g) (σ := ab_up σ 118 (some (.inl (1, .inr (.inl (ab_up F 0 (Int32.toInt64 (-1)))))))) (th := th) (A := A) (Hi := Hi) (Im := Im) (b := b) (st := n) (kp := kp) (len := len) (Y := Y) (L := L) (R := R) (hs := hs) hz hQ.1 x2 ht
      exact st_ans h (fun _ _ => rfl) (w_at (cw_o3 hc) (c_atN hc x2 ht)) m hc hz hQ hH hI hB (plR_s hY)
    · obtain ⟨L', -, m⟩ := m_at (g := g) (σ := ab_up σ 118 (some (.inl (1, .inr (.inl (ab_up F 0 (nI (s_at P t x)).toInt64)))))) (th := th) (A := A) (Hi := Hi) (Im := Im) (b := b) (st := n) (kp := kp) (len := len) (Y := Y) (L := L) (R := R) (hs := hs) hz hQ.1 x2 ht
      exact st_ans h (fun _ _ => rfl) (w_at (cw_o3 hc) (c_at hc hQ.1 x2 ht)) m hc hz hQ hH hI hB (plR_s hY)
  · exact st_ref h (w_at_1 (cw_o3 hc) (c_atX hc hx)) hc (fun _ _ => rfl) ⟨by omega, by omega⟩ (m_atX hx)
/-- whether it plays -/
theorem plR_o (h : plR N P X Y) : ∃ on, on ≤ 1 ∧ Y.1 = on ∧ pbOn X on := by
  rcases plR_on h with ⟨h1, h2⟩ | ⟨h1, h2⟩
  · exact ⟨0, by omega, h1, h2⟩
  · exact ⟨1, by omega, h1, h2⟩
theorem st_count {x : Int32} (h : LJ S N g σ F P n H I J kp len a X th Z A Hi Im b Y L R hs) : stp Value.long (fun q => q) S N (g, σ) 216 [.ref 3, .int x, .ref 118] 183 [.ref 108, .int x] := by
  obtain ⟨-, -, -, -, hc, -, hz, hQ, hH, hI, hB, hY⟩ := id h
  by_cases hx : inR x 0 11
  · obtain ⟨x, -, x2, rfl⟩ := hx
    obtain ⟨on, o1, o2, o3⟩ := plR_o hY
    obtain ⟨L', -, m⟩ := m_count (g := g) (σ := ab_up σ 118 (some (.inl (1, .inr (.inl (ab_up F 0 (lN (s_c12 P n kp Y.1 x)))))))) (th := th) (A := A) (Hi := Hi) (Im := Im) (b := b) (st := n) (kp := kp) (len := len) (Y := Y) (L := L) (R := R) (hs := hs) hz hQ.1 x2 (by omega) hI.1 hH.1
    have c := c_count (g := g) hc hQ.1 x2 o1 o3 hI.1
    rw [← o2] at c
    exact st_ans h (fun _ _ => rfl) (w_count (cw_o3 hc) c) m hc hz hQ hH hI hB (plR_s hY)
  · exact st_ref h (w_count_1 (cw_o3 hc) (c_countX hc hx)) hc (fun _ _ => rfl) ⟨by omega, by omega⟩ (m_countX hx)
theorem st_best {x : Int32} {t : Int64} (h : LJ S N g σ F P n H I J kp len a X th Z A Hi Im b Y L R hs) : stp Value.int Int32.toInt64 S N (g, σ) 217 [.ref 3, .int x, .long t, .ref 118] 185 [.ref 108, .int x, .long t] := by
  obtain ⟨-, -, -, -, hc, -, hz, hQ, hH, hI, hB, hY⟩ := id h
  have b24 := hQ.1.1.1
  by_cases hx : inX x P.1
  · obtain ⟨i, hi, rfl⟩ := hx
    by_cases ht : inL t 1 1000000000
    · obtain ⟨t, t1, t2, rfl⟩ := ht
      obtain ⟨L', -, m⟩ := m_best (g := g) (σ := ab_up σ 118 (some (.inl (1, .inr (.inl (ab_up F 0 (nI (s_bs (s_tm P.2.2.2.1 P.2.2.2.2.1 P.2.1 P.1 - s_bg P.2.2.2.1 P.2.2.2.2.1 P.2.1 P.1 (s_fb P.2.2.2.1 i)) t 150)).toInt64)))))) (th := th) (A := A) (Hi := Hi) (Im := Im) (b := b) (st := n) (kp := kp) (len := len) (Y := Y) (L := L) (R := R) (hs := hs) hz hQ.1 hi ⟨t1, t2⟩
      exact st_ans h (fun _ _ => rfl) (w_bestSpeed (cw_o3 hc) (c_best hc hQ.1 hi ⟨t1, t2⟩)) m hc hz hQ hH hI hB (plR_s hY)
    · exact st_ref h (w_bestSpeed_1 (cw_o3 hc) (c_bestT hc hQ.1 hi ht)) hc (fun _ _ => rfl) ⟨by omega, by omega⟩ (m_bestT hz b24 hi ht)
  · exact st_ref h (w_bestSpeed_2 (cw_o3 hc) (c_bestI hc hQ.1 hx)) hc (fun _ _ => rfl) ⟨by omega, by omega⟩ (m_bestI hz b24 hx)
theorem st_rub {x : Int32} {t : Int64} (h : LJ S N g σ F P n H I J kp len a X th Z A Hi Im b Y L R hs) : stp Value.int Int32.toInt64 S N (g, σ) 218 [.ref 3, .int x, .long t, .ref 118] 186 [.ref 108, .int x, .long t] := by
  obtain ⟨-, -, -, -, hc, -, hz, hQ, hH, hI, hB, hY⟩ := id h
  have b24 := hQ.1.1.1
  by_cases hx : inX x P.1
  · obtain ⟨i, hi, rfl⟩ := hx
    by_cases ht : inL t 1 1000000000
    · obtain ⟨t, t1, t2, rfl⟩ := ht
      obtain ⟨L', -, m⟩ := m_rub (g := g) (σ := ab_up σ 118 (some (.inl (1, .inr (.inl (ab_up F 0 (s_rf (s_tm P.2.2.2.1 P.2.2.2.2.1 P.2.1 P.1 - s_ib P.2.2.2.1 P.2.2.2.2.1 P.2.1 i (P.2.2.2.1 (5 * i))) t).toInt64)))))) (th := th) (A := A) (Hi := Hi) (Im := Im) (b := b) (st := n) (kp := kp) (len := len) (Y := Y) (L := L) (R := R) (hs := hs) hz hQ.1 hi ⟨t1, t2⟩
      exact st_ans h (fun _ _ => rfl) (w_rubberFor (cw_o3 hc) (c_rub hc hQ.1 hi ⟨t1, t2⟩)) m hc hz hQ hH hI hB (plR_s hY)
    · exact st_ref h (w_rubberFor_1 (cw_o3 hc) (c_rubT hc hQ.1 hi ht)) hc (fun _ _ => rfl) ⟨by omega, by omega⟩ (m_rubT hz b24 hi ht)
  · exact st_ref h (w_rubberFor_2 (cw_o3 hc) (c_rubI hc hQ.1 hx)) hc (fun _ _ => rfl) ⟨by omega, by omega⟩ (m_rubI hz b24 hx)
theorem st_if {x y z : Int32} (h : LJ S N g σ F P n H I J kp len a X th Z A Hi Im b Y L R hs) : stp Value.long (fun q => q) S N (g, σ) 219 [.ref 3, .int x, .int y, .int z, .ref 118] 187 [.ref 108, .int x, .int y, .int z] := by
  obtain ⟨-, -, -, -, hc, -, hz, hQ, hH, hI, hB, hY⟩ := id h
  by_cases hx : inX x (s_fb P.2.2.2.1 P.1)
  · obtain ⟨i, hi, rfl⟩ := hx
    by_cases hy : inR y 0 287
    · obtain ⟨t, t1, t2, rfl⟩ := hy
      by_cases hv : inR z 200 4000
      · obtain ⟨v, v1, v2, rfl⟩ := hv
        obtain ⟨σ', c, c1, c2⟩ := c_if (g := g) hc hQ.1 hQ.2 hi (show t < 288 by omega) ⟨v1, v2⟩
        obtain ⟨Z', A', L', z2, m⟩ := m_if (g := g) (σ := ab_up σ' 118 (some (.inl (1, .inr (.inl (ab_up F 0 (lN (s_bg P.2.2.2.1 (s_put P.2.2.2.2.1 P.2.1 t v 1) (s_putk P.2.2.2.2.1 P.2.1 t) P.1 i)))))))) (th := th) (A := A) (Hi := Hi) (Im := Im) (b := b) (st := n) (kp := kp) (len := len) (Y := Y) (L := L) (R := R) (hs := hs) hz hQ.1 hQ.2 hi (show t < 288 by omega) ⟨v1, v2⟩
        exact st_ans h c2 (w_ifMark (cw_o3 hc) c) m c1 z2 hQ hH hI hB (plR_s hY)
      · exact st_ref h (w_ifMark_1 (cw_o3 hc) (c_ifZ hc hQ.1 hi (by omega) hv)) hc (fun _ _ => rfl) ⟨by omega, by omega⟩ (m_ifZ hz hQ.1.1 hi (by omega) hv)
    · exact st_ref h (w_ifMark_1 (cw_o3 hc) (c_ifY hc hQ.1 hi hy)) hc (fun _ _ => rfl) ⟨by omega, by omega⟩ (m_ifY hz hQ.1.1 hi hy)
  · exact st_ref h (w_ifMark_2 (cw_o3 hc) (c_ifI hc hQ.1 hx)) hc (fun _ _ => rfl) ⟨by omega, by omega⟩ (m_ifI hz hQ.1.1 hx)
theorem st_mean (h : LJ S N g σ F P n H I J kp len a X th Z A Hi Im b Y L R hs) : stq S N (g, σ) 30 189 (.double (s_mean P)) := by
  obtain ⟨-, -, -, -, hc, -, hz, hQ, hH, hI, hB, hY⟩ := id h
  obtain ⟨L', -, m⟩ := m_mean (g := g) (σ := σ) (th := th) (A := A) (Hi := Hi) (Im := Im) (b := b) (st := n) (kp := kp) (len := len) (Y := Y) (L := L) (R := R) (hs := hs) hz hQ.1
  exact st_qst h (fun _ _ => rfl) (c_mean hc hQ.1) m hc hB
theorem st_digest (hN : N ≤ 512) (h : LJ S N g σ F P n H I J kp len a X th Z A Hi Im b Y L R hs) : ∃ v : Int64, stq S N (g, σ) 31 192 (.long v) := by
  obtain ⟨-, -, -, -, hc, -, hz, hQ, hH, hI, ⟨rfl, hl, ha⟩, hY⟩ := id h
  obtain ⟨on, o1, o2, o3⟩ := plR_o hY
  have f1 : ∀ x, x ≤ 11 → ab_Cl 26 [.ref 3, .int (nI x)] (g, σ) = some (.inl (some (.long (lN (s_c12 P n kp Y.1 x)))), (g, σ)) := fun x hx => by
    rw [o2]
    exact c_count hc hQ.1 hx o1 o3 hI.1
  have f2 : ∀ L', lay L' P → ∀ hs x, x ≤ 11 → ab_Cl 182 [.ref 108, .int (nI x)] (g, mow σ 0 Z A Hi Im b n kp len Y L' R hs) = some (.inl (some (.long (lN (s_c12 P n kp Y.1 x)))), (g, mow σ 0 Z A Hi Im b n kp len Y L' R hs)) := fun L' hL hs x hx => m_counted hz hQ.1 hL hx (by omega) hI.1 hH.1
  obtain ⟨G, g1, g2⟩ : ∃ G : Nat → Int64, (∀ x, x ≤ 6 → ab_Cl 19 [.ref 3, .int (nI x)] (g, σ) = some (.inl (some (.long (G x))), (g, σ))) ∧ (∀ L', lay L' P → ∀ hs x, x ≤ 6 → ab_Cl 167 [.ref 108, .int (nI x)] (g, mow σ 0 Z A Hi Im b n kp len Y L' R hs) = some (.inl (some (.long (G x))), (g, mow σ 0 Z A Hi Im b n kp len Y L' R hs))) := by
    rcases hY with ⟨hn, hX⟩ | ⟨fb, c, v, ck, rfl, rfl, hw, hk⟩
    · exact ⟨fun _ => -1, fun x hx => c_playingO hc hx hX, fun L' _ hs x hx => m_nowO hn hx⟩
    · exact ⟨s_pl7 P (s_fb P.2.2.2.1 fb) c v ck, fun x hx => c_playing hc hQ.1 (okY_of hQ hw hN hk) hx, fun L' hL hs x hx => m_now hz hQ.1 hL hw (by omega) hx⟩
  have c := c_digest hc hQ.1 hl ha f1 g1
  obtain ⟨L', -, m⟩ := m_digest (th := th) (L := L) (hs := hs) hz hQ.1 hl ha f2 g2
  exact ⟨_, st_qst h (fun _ _ => rfl) c m hc ⟨rfl, hl, ha⟩⟩
end
