/-! ===== each call of both: the changes of the piece ===== -/
theorem okQ_zero {P : pv} : okQ (pzero P) := ⟨⟨⟨Nat.zero_le 24, fun i hi => absurd hi (Nat.not_lt_zero i)⟩, ⟨Nat.zero_le 11, fun i hi => absurd hi (Nat.not_lt_zero i), fun i hi => absurd hi (Nat.not_lt_zero _)⟩, Nat.zero_le 12, fun i hi => absurd hi (Nat.not_lt_zero i)⟩, Nat.zero_le 10⟩
theorem s_flt_eqv {P : pv} {c1 c2 : Nat} {C1 C2 : Nat → Nat} (f1 : s_flt P c1 C1) (f2 : s_flt P c2 C2) : eqv (P.1, P.2.1, c1, P.2.2.2.1, P.2.2.2.2.1, C1) (P.1, P.2.1, c2, P.2.2.2.1, P.2.2.2.2.1, C2) := by
  obtain ⟨g1, g2⟩ := cl_eq (f1.2.trans f2.2.symm)
  exact ⟨rfl, rfl, g1, fun _ _ => rfl, fun _ _ => rfl, g2⟩
theorem okC_put3 {C : Nat → Nat} {c m i t l : Nat} (h : okC C c m) (hc : c < 12) (hi : i < m) (ht : t < 480) (hl : l ≤ 5000) : okC (put3 C (3 * c) i t l) (c + 1) m := by
  refine ⟨by omega, fun j hj => ?_⟩
  unfold put3
  by_cases z : j = c
  · subst z
    rw [b_un (by omega), b_un (by omega), b_us, b_un (by omega), b_us, b_us]
    exact ⟨hi, ht, hl⟩
  · rw [b_un (by omega), b_un (by omega), b_un (by omega), b_un (by omega), b_un (by omega), b_un (by omega), b_un (by omega), b_un (by omega), b_un (by omega)]
    exact h.2 j (by omega)
section
variable {S : ab_C} {N : Nat} {g : ab_G} {σ σ' : ab_S} {F : Nat → Int64} {P P' : pv} {n n' : Nat} {H H' : Nat → pv} {I J I' J' : pv} {kp len kp' len' : Nat} {a a' : Nat → Nat} {X X' : Option ab_C} {th : Nat} {Z A Hi Im b Z' A' Hi' Im' b' : Nat → Nat} {Y Y' : mY} {L L' : mL} {R R' : mR} {hs hs' : Int64}
theorem st_begin (h : LJ S N g σ F P n H I J kp len a X th Z A Hi Im b Y L R hs) : stp Value.int Int32.toInt64 S N (g, σ) 193 [.ref 3, .ref 118] 127 [.ref 108] := by
  obtain ⟨-, -, -, -, hc, -, hz, hQ, hH, hI, hB, hY⟩ := id h
  rcases plR_on hY with ⟨hn, hX⟩ | ⟨hn, hX⟩
  · obtain ⟨σ', H', Q, c, k1, k2, k3, k4⟩ := c_begin (g := g) hc hQ.1 hX
    exact st_chg (T := pzero P) h hn hX k4 (w_begin (cw_o3 hc) c) (fun τ => ⟨_, _, zP_zero, m_begin hz hn hH.1⟩) k1 k2 k3 okQ_zero (Nat.le_refl _)
  · exact st_ref h (w_begin_0 (cw_o3 hc) (c_beginN hc hX)) hc (fun _ _ => rfl) ⟨by omega, by omega⟩ (m_beginN hn)
theorem st_addBar {x y : Int32} (h : LJ S N g σ F P n H I J kp len a X th Z A Hi Im b Y L R hs) : stp Value.int Int32.toInt64 S N (g, σ) 194 [.ref 3, .int x, .int y, .ref 118] 129 [.ref 108, .int x, .int y] := by
  obtain ⟨-, -, -, -, hc, -, hz, hQ, hH, hI, hB, hY⟩ := id h
  by_cases hx : inR x 1 12
  · obtain ⟨x, x1, x2, rfl⟩ := hx
    by_cases hy : inR y 1 8
    · obtain ⟨y, y1, y2, rfl⟩ := hy
      have b24 := hQ.1.1.1
      by_cases hr : Y.1 = 0 ∧ pbOn X 0 ∧ P.1 < 24
      · obtain ⟨hn, hX, hb⟩ := hr
        obtain ⟨σ', H', Q, c, k1, k2, k3, k4⟩ := c_addBar (g := g) hc hQ.1 hX ⟨x1, x2⟩ ⟨y1, y2⟩ hb
        exact st_chg h hn hX k4 (w_addBar (cw_o3 hc) c) (fun τ => ⟨_, _, zP_bar hz hb (okP_fit hQ.1), m_addBar hz hb ⟨x1, x2⟩ ⟨y1, y2⟩ hn hH.1 (okP_fit hQ.1)⟩) k1 k2 k3 ⟨okP_put hQ.1 hb ⟨x1, x2⟩ ⟨y1, y2⟩ (Or.inl rfl) (by omega) (by omega), hQ.2⟩ (Nat.le_refl _)
      · have q1 : pbOn X 1 ∨ pbOn X 0 ∧ P.1 = 24 := by
          rcases plR_on hY with ⟨hn, hX⟩ | ⟨hn, hX⟩
          · exact Or.inr ⟨hX, by have q0 : ¬ _ := fun z => hr ⟨hn, hX, z⟩; omega⟩
          · exact Or.inl hX
        have q2 : Y.1 = 1 ∨ Y.1 = 0 ∧ P.1 = 24 := by
          rcases plR_on hY with ⟨hn, hX⟩ | ⟨hn, hX⟩
          · exact Or.inr ⟨hn, by have q0 : ¬ _ := fun z => hr ⟨hn, hX, z⟩; omega⟩
          · exact Or.inl hn
        exact st_ref h (w_addBar_0 (cw_o3 hc) (c_addBarN hc hQ.1 ⟨x1, x2⟩ ⟨y1, y2⟩ q1)) hc (fun _ _ => rfl) ⟨by omega, by omega⟩ (m_addBarN hz b24 ⟨x1, x2⟩ ⟨y1, y2⟩ q2)
    · exact st_ref h (w_addBar_1 (cw_o3 hc) (c_addBarY hc ⟨x1, x2⟩ hy)) hc (fun _ _ => rfl) ⟨by omega, by omega⟩ (m_addBarY ⟨x1, x2⟩ hy)
  · exact st_ref h (w_addBar_1 (cw_o3 hc) (c_addBarX hc hx)) hc (fun _ _ => rfl) ⟨by omega, by omega⟩ (m_addBarX hx)
theorem st_setBar {x y z : Int32} (h : LJ S N g σ F P n H I J kp len a X th Z A Hi Im b Y L R hs) : stp Value.int Int32.toInt64 S N (g, σ) 195 [.ref 3, .int x, .int y, .int z, .ref 118] 131 [.ref 108, .int x, .int y, .int z] := by
  obtain ⟨-, -, -, -, hc, -, hz, hQ, hH, hI, hB, hY⟩ := id h
  have b24 := hQ.1.1.1
  by_cases hx : inX x P.1
  · obtain ⟨i, hi, rfl⟩ := hx
    by_cases hy : inX y 5
    · obtain ⟨w, hw, rfl⟩ := hy
      by_cases hv : inV w z
      · obtain ⟨v, hv, rfl⟩ := hv
        rcases plR_on hY with ⟨hn, hX⟩ | ⟨hn, hX⟩
        · obtain ⟨σ', H', c', C', c, k1, k2, k3, k4⟩ := c_setBar (g := g) hc hQ.1 hX hi hw hv
          refine st_chg h hn hX k4 (w_setBar (cw_o3 hc) c) (fun τ => ?_) k1 k2 eqv_r ⟨⟨okB_sb hQ.1.1 hi hw hv, hQ.1.2.1, s_flt_ok (P := (P.1, P.2.1, P.2.2.1, s_sb P.2.2.2.1 i w v, P.2.2.2.2.1, P.2.2.2.2.2)) hQ.1.2.2 k3⟩, hQ.2⟩ (Nat.le_refl _)
          obtain ⟨Z', c2, C2, f2, z2, m⟩ := m_setBar (g := g) (σ := τ) (th := th) (A := A) (Hi := Hi) (Im := Im) (b := b) (st := n) (kp := kp) (len := len) (Y := Y) (L := L) (R := R) (hs := hs) hz hQ.1 hi hw hv hn hH.1
          exact ⟨Z', _, zP_of z2 (s_flt_eqv f2 k3), m⟩
        · exact st_ref h (w_setBar_0 (cw_o3 hc) (c_setBarN hc hQ.1 hi hw hv hX)) hc (fun _ _ => rfl) ⟨by omega, by omega⟩ (m_setBarN hz b24 hi hw hv hn)
      · exact st_ref h (w_setBar_1 (cw_o3 hc) (c_setBarV hc hQ.1 hi hw hv)) hc (fun _ _ => rfl) ⟨by omega, by omega⟩ (m_setBarV hz b24 hi hw hv)
    · exact st_ref h (w_setBar_2 (cw_o3 hc) (c_setBarW hc hQ.1 hi hy)) hc (fun _ _ => rfl) ⟨by omega, by omega⟩ (m_setBarW hz b24 hi hy)
  · exact st_ref h (w_setBar_2 (cw_o3 hc) (c_setBarI hc hQ.1 hx)) hc (fun _ _ => rfl) ⟨by omega, by omega⟩ (m_setBarI hz b24 hx)
theorem st_removeBar {x : Int32} (h : LJ S N g σ F P n H I J kp len a X th Z A Hi Im b Y L R hs) : stp Value.int Int32.toInt64 S N (g, σ) 196 [.ref 3, .int x, .ref 118] 132 [.ref 108, .int x] := by
  obtain ⟨-, -, -, -, hc, -, hz, hQ, hH, hI, hB, hY⟩ := id h
  have b24 := hQ.1.1.1
  by_cases hx : inX x P.1
  · obtain ⟨i, hi, rfl⟩ := hx
    rcases plR_on hY with ⟨hn, hX⟩ | ⟨hn, hX⟩
    · obtain ⟨σ', H', c', C', c, k1, k2, k3, k4⟩ := c_removeBar (g := g) hc hQ.1 hX hi
      refine st_chg h hn hX k4 (w_removeBar (cw_o3 hc) c) (fun τ => ?_) k1 k2 eqv_r ⟨⟨okB_drop hQ.1.1, hQ.1.2.1, s_flt_ok (P := (P.1 - 1, P.2.1, P.2.2.1, ncp P.2.2.2.1 P.2.2.2.1 ((i + 1) * 5) (i * 5) ((P.1 - 1 - i) * 5), P.2.2.2.2.1, P.2.2.2.2.2)) hQ.1.2.2 k3⟩, hQ.2⟩ (Nat.le_refl _)
      obtain ⟨Z', c2, C2, f2, z2, m⟩ := m_removeBar (g := g) (σ := τ) (th := th) (A := A) (Hi := Hi) (Im := Im) (b := b) (st := n) (kp := kp) (len := len) (Y := Y) (L := L) (R := R) (hs := hs) hz hQ.1 hi hn hH.1
      exact ⟨Z', _, zP_of z2 (s_flt_eqv f2 k3), m⟩
    · exact st_ref h (w_removeBar_0 (cw_o3 hc) (c_removeBarN hc hQ.1 hi hX)) hc (fun _ _ => rfl) ⟨by omega, by omega⟩ (m_removeBarN hz b24 hi hn)
  · exact st_ref h (w_removeBar_2 (cw_o3 hc) (c_removeBarI hc hQ.1 hx)) hc (fun _ _ => rfl) ⟨by omega, by omega⟩ (m_removeBarI hz b24 hx)
theorem st_mark {x y : Int32} {q : Nat} (hq : q ≤ 1) (h : LJ S N g σ F P n H I J kp len a X th Z A Hi Im b Y L R hs) : stp Value.int Int32.toInt64 S N (g, σ) 197 [.ref 3, .int x, .int y, .int (nI q), .ref 118] 136 [.ref 108, .int x, .int y, .int (nI q)] := by
  obtain ⟨-, -, -, -, hc, -, hz, hQ, hH, hI, hB, hY⟩ := id h
  by_cases hx : inR x 0 287
  · obtain ⟨b1, x1, x2, rfl⟩ := hx
    by_cases hy : inR y 200 4000
    · obtain ⟨v, y1, y2, rfl⟩ := hy
      by_cases hr : Y.1 = 0 ∧ pbOn X 0 ∧ s_putk P.2.2.2.2.1 P.2.1 b1 ≤ 10
      · obtain ⟨hn, hX, hf⟩ := hr
        obtain ⟨σ', H', Q, c, k1, k2, k3, k4⟩ := c_mark (g := g) hc hQ.1 hX (by omega) ⟨y1, y2⟩ hq hf
        refine st_chg h hn hX k4 (w_mark (cw_o3 hc) c) (fun τ => ?_) k1 k2 k3 ⟨⟨hQ.1.1, okM_put hQ.1.2.1 (by omega) ⟨y1, y2⟩ hq (by omega), hQ.1.2.2⟩, hf⟩ (Nat.le_refl _)
        obtain ⟨Z', z2, m⟩ := m_mark (g := g) (σ := τ) (th := th) (A := A) (Hi := Hi) (Im := Im) (b := b) (st := n) (kp := kp) (len := len) (Y := Y) (L := L) (R := R) (hs := hs) hz hQ.1 (show b1 < 288 by omega) ⟨y1, y2⟩ hq hn hH.1 hf
        exact ⟨Z', _, z2, m⟩
      · have q1 : pbOn X 1 ∨ pbOn X 0 ∧ 10 < s_putk P.2.2.2.2.1 P.2.1 b1 := by
          rcases plR_on hY with ⟨hn, hX⟩ | ⟨hn, hX⟩
          · exact Or.inr ⟨hX, by have q0 : ¬ _ := fun z => hr ⟨hn, hX, z⟩; omega⟩
          · exact Or.inl hX
        have q2 : Y.1 = 1 ∨ Y.1 = 0 ∧ 10 < s_putk P.2.2.2.2.1 P.2.1 b1 := by
          rcases plR_on hY with ⟨hn, hX⟩ | ⟨hn, hX⟩
          · exact Or.inr ⟨hn, by have q0 : ¬ _ := fun z => hr ⟨hn, hX, z⟩; omega⟩
          · exact Or.inl hn
        exact st_ref h (w_mark_0 (cw_o3 hc) (c_markN hc hQ.1 hQ.2 (by omega) ⟨y1, y2⟩ q1)) hc (fun _ _ => rfl) ⟨by omega, by omega⟩ (m_markN hz hQ.1.2.1 hQ.2 (by omega) ⟨y1, y2⟩ q2)
    · exact st_ref h (w_mark_1 (cw_o3 hc) (c_markY hc (by omega) hy)) hc (fun _ _ => rfl) ⟨by omega, by omega⟩ (m_markY (by omega) hy)
  · exact st_ref h (w_mark_1 (cw_o3 hc) (c_markX hc hx)) hc (fun _ _ => rfl) ⟨by omega, by omega⟩ (m_markX hx)
theorem st_removeMark {x : Int32} (h : LJ S N g σ F P n H I J kp len a X th Z A Hi Im b Y L R hs) : stp Value.int Int32.toInt64 S N (g, σ) 198 [.ref 3, .int x, .ref 118] 137 [.ref 108, .int x] := by
  obtain ⟨-, -, -, -, hc, -, hz, hQ, hH, hI, hB, hY⟩ := id h
  have m11 := hQ.1.2.1.1
  by_cases hx : inX x P.2.1
  · obtain ⟨i, hi, rfl⟩ := hx
    rcases plR_on hY with ⟨hn, hX⟩ | ⟨hn, hX⟩
    · obtain ⟨σ', H', Q, c, k1, k2, k3, k4⟩ := c_removeMark (g := g) hc hQ.1 hX hi
      refine st_chg h hn hX k4 (w_removeMark (cw_o3 hc) c) (fun τ => ?_) k1 k2 k3 ⟨⟨hQ.1.1, okM_drop hQ.1.2.1 hi, hQ.1.2.2⟩, Nat.le_trans (Nat.sub_le P.2.1 1) hQ.2⟩ (Nat.le_refl _)
      obtain ⟨Z', z2, m⟩ := m_removeMark (g := g) (σ := τ) (th := th) (A := A) (Hi := Hi) (Im := Im) (b := b) (st := n) (kp := kp) (len := len) (Y := Y) (L := L) (R := R) (hs := hs) hz hQ.1 hi hn hH.1
      exact ⟨Z', _, z2, m⟩
    · exact st_ref h (w_removeMark_0 (cw_o3 hc) (c_removeMarkN hc hQ.1 hi hX)) hc (fun _ _ => rfl) ⟨by omega, by omega⟩ (m_removeMarkN hz m11 hi hn)
  · exact st_ref h (w_removeMark_2 (cw_o3 hc) (c_removeMarkI hc hQ.1 hx)) hc (fun _ _ => rfl) ⟨by omega, by omega⟩ (m_removeMarkI hz m11 hx)
theorem st_cue {x y z : Int32} (h : LJ S N g σ F P n H I J kp len a X th Z A Hi Im b Y L R hs) : stp Value.int Int32.toInt64 S N (g, σ) 199 [.ref 3, .int x, .int y, .int z, .ref 118] 138 [.ref 108, .int x, .int y, .int z] := by
  obtain ⟨-, -, -, -, hc, -, hz, hQ, hH, hI, hB, hY⟩ := id h
  have c12 := hQ.1.2.2.1
  by_cases hx : inX x (s_fb P.2.2.2.1 P.1)
  · obtain ⟨i, hi, rfl⟩ := hx
    by_cases hy : inR y 0 479
    · obtain ⟨t, t1, t2, rfl⟩ := hy
      by_cases hv : inR z 0 5000
      · obtain ⟨l, l1, l2, rfl⟩ := hv
        by_cases hr : Y.1 = 0 ∧ pbOn X 0 ∧ P.2.2.1 < 12
        · obtain ⟨hn, hX, hf⟩ := hr
          obtain ⟨σ', H', c, k1, k2, k4⟩ := c_cue (g := g) hc hQ.1 hX hi (show t < 480 by omega) l2 hf
          refine st_chg h hn hX k4 (w_cue (cw_o3 hc) c) (fun τ => ?_) k1 k2 eqv_r ⟨⟨hQ.1.1, hQ.1.2.1, okC_put3 hQ.1.2.2 hf hi (by omega) l2⟩, hQ.2⟩ (Nat.le_refl _)
          obtain ⟨Z', z2, m⟩ := m_cue (g := g) (σ := τ) (th := th) (A := A) (Hi := Hi) (Im := Im) (b := b) (st := n) (kp := kp) (len := len) (Y := Y) (L := L) (R := R) (hs := hs) hz hQ.1 hi (show t < 480 by omega) l2 hn hH.1 hf
          exact ⟨Z', _, z2, m⟩
        · have q1 : pbOn X 1 ∨ pbOn X 0 ∧ P.2.2.1 = 12 := by
            rcases plR_on hY with ⟨hn, hX⟩ | ⟨hn, hX⟩
            · exact Or.inr ⟨hX, by have q0 : ¬ _ := fun z => hr ⟨hn, hX, z⟩; omega⟩
            · exact Or.inl hX
          have q2 : Y.1 = 1 ∨ Y.1 = 0 ∧ P.2.2.1 = 12 := by
            rcases plR_on hY with ⟨hn, hX⟩ | ⟨hn, hX⟩
            · exact Or.inr ⟨hn, by have q0 : ¬ _ := fun z => hr ⟨hn, hX, z⟩; omega⟩
            · exact Or.inl hn
          exact st_ref h (w_cue_0 (cw_o3 hc) (c_cueN hc hQ.1 hi (by omega) l2 q1)) hc (fun _ _ => rfl) ⟨by omega, by omega⟩ (m_cueN hz hQ.1 hi (by omega) l2 q2)
      · exact st_ref h (w_cue_1 (cw_o3 hc) (c_cueZ hc hQ.1 hi (by omega) hv)) hc (fun _ _ => rfl) ⟨by omega, by omega⟩ (m_cueZ hz hQ.1.1 hi (by omega) hv)
    · exact st_ref h (w_cue_1 (cw_o3 hc) (c_cueY hc hQ.1 hi hy)) hc (fun _ _ => rfl) ⟨by omega, by omega⟩ (m_cueY hz hQ.1.1 hi hy)
  · exact st_ref h (w_cue_2 (cw_o3 hc) (c_cueI hc hQ.1 hx)) hc (fun _ _ => rfl) ⟨by omega, by omega⟩ (m_cueI hz hQ.1.1 hx)
theorem st_removeCue {x : Int32} (h : LJ S N g σ F P n H I J kp len a X th Z A Hi Im b Y L R hs) : stp Value.int Int32.toInt64 S N (g, σ) 200 [.ref 3, .int x, .ref 118] 140 [.ref 108, .int x] := by
  obtain ⟨-, -, -, -, hc, -, hz, hQ, hH, hI, hB, hY⟩ := id h
  have c12 := hQ.1.2.2.1
  by_cases hx : inX x P.2.2.1
  · obtain ⟨i, hi, rfl⟩ := hx
    rcases plR_on hY with ⟨hn, hX⟩ | ⟨hn, hX⟩
    · obtain ⟨σ', H', c, k1, k2, k4⟩ := c_removeCue (g := g) hc hQ.1 hX hi
      refine st_chg h hn hX k4 (w_removeCue (cw_o3 hc) c) (fun τ => ?_) k1 k2 eqv_r ⟨⟨hQ.1.1, hQ.1.2.1, okC_drop hQ.1.2.2 hi⟩, hQ.2⟩ (Nat.le_refl _)
      obtain ⟨Z', z2, m⟩ := m_removeCue (g := g) (σ := τ) (th := th) (A := A) (Hi := Hi) (Im := Im) (b := b) (st := n) (kp := kp) (len := len) (Y := Y) (L := L) (R := R) (hs := hs) hz hQ.1 hi hn hH.1
      exact ⟨Z', _, z2, m⟩
    · exact st_ref h (w_removeCue_0 (cw_o3 hc) (c_removeCueN hc hQ.1 hi hX)) hc (fun _ _ => rfl) ⟨by omega, by omega⟩ (m_removeCueN hz c12 hi hn)
  · exact st_ref h (w_removeCue_2 (cw_o3 hc) (c_removeCueI hc hQ.1 hx)) hc (fun _ _ => rfl) ⟨by omega, by omega⟩ (m_removeCueI hz c12 hx)
theorem st_load (h : LJ S N g σ F P n H I J kp len a X th Z A Hi Im b Y L R hs) : stp Value.int Int32.toInt64 S N (g, σ) 201 [.ref 3, .ref 118] 150 [.ref 108] := by
  obtain ⟨-, -, -, -, hc, -, hz, hQ, hH, hI, ⟨rfl, hl, ha⟩, hY⟩ := id h
  have b24 := hQ.1.1.1
  by_cases hf : t_full b len
  · by_cases hr : Y.1 = 0 ∧ pbOn X 0 ∧ P.1 + t_bars b len ≤ 24
    · obtain ⟨hn, hX, hb⟩ := hr
      obtain ⟨σ', H', Q, c, k1, k2, k3, k4⟩ := c_load (g := g) hc hQ.1 hX hl ha hf hb
      refine st_chg h hn hX k4 (w_load (cw_o3 hc) c) (fun τ => ?_) k1 k2 k3 ⟨okP_ap hQ.1 hb (okT_whole (t_run_ok (a := b) (n := len)).1 hf.2), hQ.2⟩ (Nat.zero_le _)
      obtain ⟨Z', R', z2, m⟩ := m_load (g := g) (σ := τ) (th := th) (A := A) (Hi := Hi) (Im := Im) (b := b) (st := n) (kp := kp) (len := len) (Y := Y) (L := L) (R := R) (hs := hs) hz hQ.1 ha hl hf hn hH.1 hb
      exact ⟨Z', R', z2, m⟩
    · have q1 : pbOn X 1 ∨ pbOn X 0 ∧ 24 < P.1 + t_bars b len := by
        rcases plR_on hY with ⟨hn, hX⟩ | ⟨hn, hX⟩
        · exact Or.inr ⟨hX, by have q0 : ¬ _ := fun z => hr ⟨hn, hX, z⟩; omega⟩
        · exact Or.inl hX
      have q2 : Y.1 = 1 ∨ Y.1 = 0 ∧ 24 < P.1 + t_bars b len := by
        rcases plR_on hY with ⟨hn, hX⟩ | ⟨hn, hX⟩
        · exact Or.inr ⟨hn, by have q0 : ¬ _ := fun z => hr ⟨hn, hX, z⟩; omega⟩
        · exact Or.inl hn
      obtain ⟨σ', c, k1, k2⟩ := c_loadN (g := g) hc hQ.1 hl ha hf q1
      obtain ⟨R', m⟩ := m_loadN (g := ab_th g) (σ := σ') (th := th) (A := A) (Hi := Hi) (Im := Im) (b := b) (st := n) (kp := kp) (len := len) (Y := Y) (L := L) (R := R) (hs := hs) hz b24 ha hl hf q2
      exact st_ref h (w_load_0 (cw_o3 hc) c) k1 k2 ⟨by omega, by omega⟩ m
  · obtain ⟨σ', c, k1, k2⟩ := c_loadX (g := g) hc hl ha hf
    obtain ⟨R', m⟩ := m_loadX (g := ab_th g) (σ := σ') (th := th) (Z := Z) (A := A) (Hi := Hi) (Im := Im) (b := b) (st := n) (kp := kp) (len := len) (Y := Y) (L := L) (R := R) (hs := hs) ha hl hf
    exact st_ref h (w_load_1 (cw_o3 hc) c) k1 k2 ⟨by omega, by omega⟩ m
end
