/-! ===== each call of both: what was before, texts, playing ===== -/
theorem kp_same {kp j i : Nat} (hk : kp < 4) (hj : j < 2) (hi : i < 2) (h : i ≠ j) : (kp ||| 2 ^ j) / 2 ^ i % 2 = kp / 2 ^ i % 2 := by
  have : ∀ kp, kp < 4 → ∀ j, j < 2 → ∀ i, i < 2 → i ≠ j → (kp ||| 2 ^ j) / 2 ^ i % 2 = kp / 2 ^ i % 2 := by decide
  exact this kp hk j hj i hi h
theorem kp_lt {kp j : Nat} (hk : kp < 4) (hj : j < 2) : (kp ||| 2 ^ j) < 4 := by
  have : ∀ kp, kp < 4 → ∀ j, j < 2 → (kp ||| 2 ^ j) < 4 := by decide
  exact this kp hk j hj
section
variable {S : ab_C} {N : Nat} {g : ab_G} {σ σ' : ab_S} {F : Nat → Int64} {P P' : pv} {n n' : Nat} {H H' : Nat → pv} {I J I' J' : pv} {kp len kp' len' : Nat} {a a' : Nat → Nat} {X X' : Option ab_C} {th : Nat} {Z A Hi Im b Z' A' Hi' Im' b' : Nat → Nat} {Y Y' : mY} {L L' : mL} {R R' : mR} {hs hs' : Int64}
theorem imR_keep {j : Nat} {I' J' : pv} (h : imR kp I J Im) (hj : j < 2) (hz : zP Z P) (hQ : okQ P) (h1 : eqv (s_im I' J' j) P) (h2 : ∀ i, i < 2 → i ≠ j → s_im I' J' i = s_im I J i) : imR (kp ||| 2 ^ j) I' J' (ncp Z Im 0 (193 * j) 193) := by
  obtain ⟨hk, h⟩ := h
  refine ⟨kp_lt hk hj, fun i hi hb => ?_⟩
  by_cases e : i = j
  · subst e
    refine ⟨zP_of (zP_c hz (fun k hk => ?_) (okP_fit hQ.1)) (eqv_s h1), okQ_c (eqv_s h1) hQ⟩
    show ncp Z Im 0 (193 * i) 193 (193 * i + k) = Z k
    unfold ncp
    rw [if_pos (by omega), show 0 + (193 * i + k - 193 * i) = k by omega]
  · rw [kp_same hk hj hi e] at hb
    obtain ⟨k1, k2⟩ := h i hi hb
    rw [h2 i hi e]
    refine ⟨zP_c k1 (fun k hk => ?_) (okP_fit k2.1), k2⟩
    show ncp Z Im 0 (193 * j) 193 (193 * i + k) = Im (193 * i + k)
    unfold ncp
    rw [if_neg (by omega)]
theorem st_undo (h : LJ S N g σ F P n H I J kp len a X th Z A Hi Im b Y L R hs) : stp Value.int Int32.toInt64 S N (g, σ) 202 [.ref 3, .ref 118] 151 [.ref 108] := by
  obtain ⟨-, -, -, -, hc, -, hz, hQ, hH, hI, hB, hY⟩ := id h
  rcases plR_on hY with ⟨hn, hX⟩ | ⟨hn, hX⟩
  · cases n with
    | zero => exact st_ref h (w_undo_0 (cw_o3 hc) (c_undoN hc (Or.inr ⟨hX, rfl⟩))) hc (fun _ _ => rfl) ⟨by omega, by omega⟩ (m_undoN (Or.inr ⟨hn, rfl⟩))
    | succ n =>
      obtain ⟨k1, k2⟩ := hH.2 n (by omega)
      have h8 := hH.1
      obtain ⟨σ', Q, c, c1, c2, c3⟩ := c_undo (g := g) hc hX k2.1
      exact st_ans h c3 (w_undo (cw_o3 hc) c) (m_undo hn (by omega)) c1 (zP_of (zP_row k1 (okP_fit k2.1)) (eqv_s c2)) (okQ_c (eqv_s c2) k2) ⟨by omega, fun j hj => hH.2 j (by omega)⟩ hI hB (Or.inl ⟨hn, hX⟩)
  · exact st_ref h (w_undo_0 (cw_o3 hc) (c_undoN hc (Or.inl hX))) hc (fun _ _ => rfl) ⟨by omega, by omega⟩ (m_undoN (Or.inl hn))
theorem st_keep {x : Int32} (h : LJ S N g σ F P n H I J kp len a X th Z A Hi Im b Y L R hs) : stp Value.int Int32.toInt64 S N (g, σ) 203 [.ref 3, .int x, .ref 118] 153 [.ref 108, .int x] := by
  obtain ⟨-, -, -, -, hc, -, hz, hQ, hH, hI, hB, hY⟩ := id h
  by_cases hx : inX x 2
  · obtain ⟨j, hj, rfl⟩ := hx
    rcases (show j = 0 ∨ j = 1 by omega) with e | e
    · subst e
      obtain ⟨σ', Q, c, c1, c2, c3⟩ := c_keep0 (g := g) hc hQ.1 hI.1
      exact st_ans h c3 (w_keep (cw_o3 hc) c) (m_keep hz hj hI.1) c1 hz hQ hH (imR_keep hI hj hz hQ c2 (fun i hi hne => by unfold s_im; rw [if_neg hne, if_neg hne])) hB (plR_s hY)
    · subst e
      obtain ⟨σ', Q, c, c1, c2, c3⟩ := c_keep1 (g := g) hc hQ.1 hI.1
      exact st_ans h c3 (w_keep (cw_o3 hc) c) (m_keep hz hj hI.1) c1 hz hQ hH (imR_keep hI hj hz hQ c2 (fun i hi hne => by unfold s_im; rw [if_pos (show i = 0 by omega), if_pos (show i = 0 by omega)])) hB (plR_s hY)
  · exact st_ref h (w_keep_2 (cw_o3 hc) (c_keepI hc hx)) hc (fun _ _ => rfl) ⟨by omega, by omega⟩ (m_keepI hx)
theorem st_back {x : Int32} (h : LJ S N g σ F P n H I J kp len a X th Z A Hi Im b Y L R hs) : stp Value.int Int32.toInt64 S N (g, σ) 204 [.ref 3, .int x, .ref 118] 154 [.ref 108, .int x] := by
  obtain ⟨-, -, -, -, hc, -, hz, hQ, hH, hI, hB, hY⟩ := id h
  by_cases hx : inX x 2
  · obtain ⟨j, hj, rfl⟩ := hx
    by_cases hr : Y.1 = 0 ∧ pbOn X 0 ∧ kp / 2 ^ j % 2 = 1
    · obtain ⟨hn, hX, hb⟩ := hr
      obtain ⟨k1, k2⟩ := hI.2 j hj hb
      obtain ⟨σ', H', Q, c, c1, c2, c3, c4⟩ := c_back (g := g) hc hQ.1 hX hj hI.1 hb k2.1
      exact st_chg h hn hX c4 (w_back (cw_o3 hc) c) (fun τ => ⟨_, _, zP_row k1 (okP_fit k2.1), m_back k1 (okP_fit k2.1) hn hH.1 hj hI.1 hb⟩) c1 c2 c3 k2 (Nat.le_refl _)
    · have q1 : pbOn X 1 ∨ pbOn X 0 ∧ kp / 2 ^ j % 2 = 0 := by
        rcases plR_on hY with ⟨hn, hX⟩ | ⟨hn, hX⟩
        · exact Or.inr ⟨hX, by have q0 : ¬ _ := fun z => hr ⟨hn, hX, z⟩; omega⟩
        · exact Or.inl hX
      have q2 : Y.1 = 1 ∨ Y.1 = 0 ∧ kp / 2 ^ j % 2 = 0 := by
        rcases plR_on hY with ⟨hn, hX⟩ | ⟨hn, hX⟩
        · exact Or.inr ⟨hn, by have q0 : ¬ _ := fun z => hr ⟨hn, hX, z⟩; omega⟩
        · exact Or.inl hn
      exact st_ref h (w_back_0 (cw_o3 hc) (c_backN hc hj hI.1 q1)) hc (fun _ _ => rfl) ⟨by omega, by omega⟩ (m_backN hj hI.1 q2)
  · exact st_ref h (w_back_2 (cw_o3 hc) (c_backI hc hx)) hc (fun _ _ => rfl) ⟨by omega, by omega⟩ (m_backI hx)
theorem st_append {x : Int32} (h : LJ S N g σ F P n H I J kp len a X th Z A Hi Im b Y L R hs) : stp Value.int Int32.toInt64 S N (g, σ) 205 [.ref 3, .int x, .ref 118] 148 [.ref 108, .int x] := by
  obtain ⟨-, -, -, -, hc, -, hz, hQ, hH, hI, ⟨rfl, hl, ha⟩, hY⟩ := id h
  by_cases hx : inR x 32 126
  · obtain ⟨x, x1, x2, rfl⟩ := hx
    by_cases hf : len < 60
    · obtain ⟨σ', c, c1, c2⟩ := c_append (g := g) hc ⟨x1, x2⟩ hf
      refine st_ans h c2 (w_append (cw_o3 hc) c) (m_append ⟨x1, x2⟩ hf) c1 hz hQ hH hI ⟨rfl, by omega, fun i hi => ?_⟩ (plR_s hY)
      by_cases e : i = len
      · subst e
        rw [b_us]
        exact x2
      · rw [b_un e]
        exact ha i (by omega)
    · exact st_ref h (w_append_0 (cw_o3 hc) (c_appendN hc ⟨x1, x2⟩ (by omega))) hc (fun _ _ => rfl) ⟨by omega, by omega⟩ (m_appendN ⟨x1, x2⟩ (by omega))
  · exact st_ref h (w_append_1 (cw_o3 hc) (c_appendX hc hx)) hc (fun _ _ => rfl) ⟨by omega, by omega⟩ (m_appendX hx)
theorem st_clear (h : LJ S N g σ F P n H I J kp len a X th Z A Hi Im b Y L R hs) : stq S N (g, σ) 14 149 (.int (nI len)) := by
  obtain ⟨-, -, -, -, hc, -, hz, hQ, hH, hI, ⟨rfl, hl, ha⟩, hY⟩ := id h
  obtain ⟨σ', c, c1, c2⟩ := c_clear (g := g) hc
  exact st_qst h c2 c m_clear c1 ⟨rfl, Nat.zero_le _, fun i hi => absurd hi (Nat.not_lt_zero i)⟩
theorem st_first (h : LJ S N g σ F P n H I J kp len a X th Z A Hi Im b Y L R hs) : stq S N (g, σ) 15 147 (.int (nI (t_run a len).1)) := by
  obtain ⟨-, -, -, -, hc, -, hz, hQ, hH, hI, ⟨rfl, hl, ha⟩, hY⟩ := id h
  obtain ⟨σ', c, c1, c2⟩ := c_first (g := g) hc hl ha
  obtain ⟨R', m⟩ := m_first (g := g) (σ := σ') (th := th) (Z := Z) (A := A) (Hi := Hi) (Im := Im) (b := b) (st := n) (kp := kp) (len := len) (Y := Y) (L := L) (R := R) (hs := hs) ha hl
  exact st_qst h c2 c m c1 ⟨rfl, hl, ha⟩
theorem st_start {x y z : Int32} (h : LJ S N g σ F P n H I J kp len a X th Z A Hi Im b Y L R hs) : stp Value.long (fun q => q) S N (g, σ) 206 [.ref 3, .int x, .int y, .int z, .ref 118] 159 [.ref 108, .int x, .int y, .int z] := by
  obtain ⟨-, -, -, -, hc, -, hz, hQ, hH, hI, hB, hY⟩ := id h
  have b24 := hQ.1.1.1
  by_cases hx : inX x P.1
  · obtain ⟨i, hi, rfl⟩ := hx
    by_cases hy : inR y 0 8
    · obtain ⟨k, -, k8, rfl⟩ := hy
      by_cases hv : inR z 50 200
      · obtain ⟨v, v1, v2, rfl⟩ := hv
        rcases plR_on hY with ⟨hn, hX⟩ | ⟨hn, hX⟩
        · obtain ⟨σ', c, c1, c2⟩ := c_start (g := g) hc hQ.1 hX hi k8 ⟨v1, v2⟩
          obtain ⟨L', -, m⟩ := m_start (g := g) (σ := ab_up σ' 118 (some (.inl (1, .inr (.inl (ab_up F 0 (lN (s_pd P (s_fb P.2.2.2.1 i) k v (s_tm P.2.2.2.1 P.2.2.2.2.1 P.2.1 P.1))))))))) (th := th) (A := A) (Hi := Hi) (Im := Im) (b := b) (st := n) (kp := kp) (len := len) (Y := Y) (L := L) (R := R) (hs := hs) hz hQ.1 hi k8 ⟨v1, v2⟩ hn
          exact st_ans h c2 (w_start (cw_o3 hc) c) m c1 hz hQ hH hI hB (Or.inr ⟨i, k, v, 0, rfl, rfl, ⟨hi, k8, v1, v2⟩, Nat.zero_le _⟩)
        · exact st_ref h (w_start_0 (cw_o3 hc) (c_startN hc hQ.1 hi k8 ⟨v1, v2⟩ hX)) hc (fun _ _ => rfl) ⟨by omega, by omega⟩ (m_startN hz b24 hi k8 ⟨v1, v2⟩ hn)
      · exact st_ref h (w_start_1 (cw_o3 hc) (c_startZ hc hQ.1 hi k8 hv)) hc (fun _ _ => rfl) ⟨by omega, by omega⟩ (m_startZ hz b24 hi k8 hv)
    · exact st_ref h (w_start_1 (cw_o3 hc) (c_startY hc hQ.1 hi hy)) hc (fun _ _ => rfl) ⟨by omega, by omega⟩ (m_startY hz b24 hi hy)
  · exact st_ref h (w_start_2 (cw_o3 hc) (c_startI hc hQ.1 hx)) hc (fun _ _ => rfl) ⟨by omega, by omega⟩ (m_startI hz b24 hx)
theorem okY_of {fb c v ck : Nat} (hQ : okQ P) (hw : okW P fb c v) (hN : N ≤ 512) (hk : ck ≤ 60000000 * N) : okY P (s_fb P.2.2.2.1 fb) c v ck := ⟨s_fb_lt hQ.1.1 hw.1, hw.2.1, hw.2.2.1, hw.2.2.2, by omega⟩
theorem st_advance {x : Int32} (hN : N ≤ 512) (h : LJ S N g σ F P n H I J kp len a X th Z A Hi Im b Y L R hs) : stp Value.int Int32.toInt64 S N (g, σ) 207 [.ref 3, .int x, .ref 118] 162 [.ref 108, .int x] := by
  obtain ⟨-, -, -, -, hc, -, hz, hQ, hH, hI, hB, hY⟩ := id h
  by_cases hx : inR x 1 60000
  · obtain ⟨x, x1, x2, rfl⟩ := hx
    rcases hY with ⟨hn, hX⟩ | ⟨fb, c, v, ck, rfl, rfl, hw, hk⟩
    · exact st_ref h (w_advance_0 (cw_o3 hc) (c_advanceN hc ⟨x1, x2⟩ hX)) hc (fun _ _ => rfl) ⟨by omega, by omega⟩ (m_advanceN ⟨x1, x2⟩ hn)
    · obtain ⟨σ', c0, c1, c2⟩ := c_advance (g := g) hc hQ.1 (okY_of hQ hw hN hk) ⟨x1, x2⟩
      obtain ⟨L', -, m⟩ := m_advance (g := g) (σ := ab_up σ' 118 (some (.inl (1, .inr (.inl (ab_up F 0 (nI (s_kb P (s_fb P.2.2.2.1 fb) c v (ck + x * 1000) - s_kb P (s_fb P.2.2.2.1 fb) c v ck + (s_hq P (s_fb P.2.2.2.1 fb) c v (ck + x * 1000) - s_hq P (s_fb P.2.2.2.1 fb) c v ck))).toInt64)))))) (th := th) (A := A) (Hi := Hi) (Im := Im) (b := b) (st := n) (kp := kp) (len := len) (L := L) (R := R) (hs := hs) hz hQ.1 hw (show ck ≤ 1000000000000 by omega) ⟨x1, x2⟩
      refine st_ans h c2 (w_advance (cw_o3 hc) c0) m c1 hz hQ hH hI hB ?_
      by_cases e : ck + x * 1000 < s_pd P (s_fb P.2.2.2.1 fb) c v (s_tm P.2.2.2.1 P.2.2.2.2.1 P.2.1 P.1)
      · rw [if_pos e]
        exact Or.inr ⟨fb, c, v, ck + x * 1000, rfl, rfl, hw, by omega⟩
      · rw [if_neg e]
        exact Or.inl ⟨rfl, pbOn_S⟩
  · exact st_ref h (w_advance_1 (cw_o3 hc) (c_advanceX hc hx)) hc (fun _ _ => rfl) ⟨by omega, by omega⟩ (m_advanceX hx)
theorem st_stop (h : LJ S N g σ F P n H I J kp len a X th Z A Hi Im b Y L R hs) : stp Value.long (fun q => q) S N (g, σ) 208 [.ref 3, .ref 118] 163 [.ref 108] := by
  obtain ⟨-, -, -, -, hc, -, hz, hQ, hH, hI, hB, hY⟩ := id h
  rcases hY with ⟨hn, hX⟩ | ⟨fb, c, v, ck, rfl, rfl, hw, hk⟩
  · exact st_ref h (w_stop_0 (cw_o3 hc) (c_stopN hc hX)) hc (fun _ _ => rfl) ⟨by omega, by omega⟩ (m_stopN hn)
  · obtain ⟨σ', c0, c1, c2⟩ := c_stop (g := g) hc
    exact st_ans h c2 (w_stop (cw_o3 hc) c0) m_stop c1 hz hQ hH hI hB (Or.inl ⟨rfl, pbOn_S⟩)
theorem st_playing {x : Int32} (hN : N ≤ 512) (h : LJ S N g σ F P n H I J kp len a X th Z A Hi Im b Y L R hs) : stp Value.long (fun q => q) S N (g, σ) 209 [.ref 3, .int x, .ref 118] 168 [.ref 108, .int x] := by
  obtain ⟨-, -, -, -, hc, -, hz, hQ, hH, hI, hB, hY⟩ := id h
  by_cases hx : inR x 0 6
  · obtain ⟨x, -, x2, rfl⟩ := hx
    rcases hY with ⟨hn, hX⟩ | ⟨fb, c, v, ck, rfl, rfl, hw, hk⟩
    · obtain ⟨L', -, m⟩ := m_playingO (g := g) (σ := ab_up σ 118 (some (.inl (1, .inr (.inl (ab_up F 0 (-1))))))) (th := th) (A := A) (Hi := Hi) (Im := Im) (b := b) (st := n) (kp := kp) (len := len) (L := L) (R := R) (hs := hs) hz hQ.1 hn x2
      exact st_ans h (fun _ _ => rfl) (w_playing (cw_o3 hc) (c_playingO hc x2 hX)) m hc hz hQ hH hI hB (Or.inl ⟨hn, hX⟩)
    · obtain ⟨L', -, m⟩ := m_playing (g := g) (σ := ab_up σ 118 (some (.inl (1, .inr (.inl (ab_up F 0 (s_pl7 P (s_fb P.2.2.2.1 fb) c v ck x))))))) (th := th) (A := A) (Hi := Hi) (Im := Im) (b := b) (st := n) (kp := kp) (len := len) (L := L) (R := R) (hs := hs) hz hQ.1 hw (show ck ≤ 1000000000000 by omega) x2
      exact st_ans h (fun _ _ => rfl) (w_playing (cw_o3 hc) (c_playing hc hQ.1 (okY_of hQ hw hN hk) x2)) m hc hz hQ hH hI hB (Or.inr ⟨fb, c, v, ck, rfl, rfl, hw, by omega⟩)
  · exact st_ref h (w_playing_1 (cw_o3 hc) (c_playingX hc hx)) hc (fun _ _ => rfl) ⟨by omega, by omega⟩ (m_playingX hx)
end
