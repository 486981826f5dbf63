/-! ===== the two objects beside each other ===== -/
def okQ (P : pv) : Prop := okP P ∧ P.2.1 ≤ 10
theorem okQ_c {P Q : pv} (e : eqv P Q) (h : okQ P) : okQ Q := ⟨okP_c e h.1, by rw [← e.2.1]; exact h.2⟩
/-- what plays -/
def plR (N : Nat) (P : pv) (X : Option ab_C) (Y : mY) : Prop := Y.1 = 0 ∧ pbOn X 0 ∨ ∃ fb c v ck, Y = (1, fb, c, v, ck) ∧ X = pbS P (s_fb P.2.2.2.1 fb) c v 1 ck ∧ okW P fb c v ∧ ck ≤ 60000000 * N
theorem plR_s {N : Nat} {P : pv} {X : Option ab_C} {Y : mY} (h : plR N P X Y) : plR (N + 1) P X Y := by
  rcases h with h | ⟨fb, c, v, ck, h1, h2, h3, h4⟩
  · exact Or.inl h
  · exact Or.inr ⟨fb, c, v, ck, h1, h2, h3, by omega⟩
theorem plR_on {N : Nat} {P : pv} {X : Option ab_C} {Y : mY} (h : plR N P X Y) : Y.1 = 0 ∧ pbOn X 0 ∨ Y.1 = 1 ∧ pbOn X 1 := by
  rcases h with h | ⟨fb, c, v, ck, h1, h2, h3, h4⟩
  · exact Or.inl h
  · subst h1
    subst h2
    exact Or.inr ⟨rfl, pbOn_S⟩
/-- the states kept -/
def hiR (n : Nat) (H : Nat → pv) (Hi : Nat → Nat) : Prop := n ≤ 8 ∧ ∀ j, j < n → zP (rowH Hi j) (H j) ∧ okQ (H j)
/-- the images -/
def imR (kp : Nat) (I J : pv) (Im : Nat → Nat) : Prop := kp < 4 ∧ ∀ j, j < 2 → kp / 2 ^ j % 2 = 1 → zP (rowH Im j) (s_im I J j) ∧ okQ (s_im I J j)
/-- what was appended -/
def inB (len : Nat) (a b : Nat → Nat) : Prop := b = a ∧ len ≤ 60 ∧ ∀ i, i < len → a i ≤ 126
def TW (N : Nat) (σ : ab_S) (P : pv) (n : Nat) (H : Nat → pv) (I J : pv) (kp len : Nat) (a : Nat → Nat) (X : Option ab_C) (th : Nat) (Z A Hi Im b : Nat → Nat) (Y : mY) (L : mL) (R : mR) (hs : Int64) : Prop := cw σ P n H I J kp len a X ∧ mow σ th Z A Hi Im b n kp len Y L R hs = σ ∧ zP Z P ∧ okQ P ∧ hiR n H Hi ∧ imR kp I J Im ∧ inB len a b ∧ plR N P X Y
/-- behind N calls; S is the script -/
def LJ (S : ab_C) (N : Nat) (g : ab_G) (σ : ab_S) (F : Nat → Int64) (P : pv) (n : Nat) (H : Nat → pv) (I J : pv) (kp len : Nat) (a : Nat → Nat) (X : Option ab_C) (th : Nat) (Z A Hi Im b : Nat → Nat) (Y : mY) (L : mL) (R : mR) (hs : Int64) : Prop := g.2.2.1 ≤ 116 + N ∧ g.2.2.2 ≤ 8498 + 6 * N ∧ σ 0 = some S ∧ σ 118 = some (.inl (1, .inr (.inl F))) ∧ TW N σ P n H I J kp len a X th Z A Hi Im b Y L R hs
def LI (S : ab_C) (N : Nat) (w : ab_W) : Prop := ∃ F P n H I J kp len a X th Z A Hi Im b Y L R hs, LJ S N w.1 w.2 F P n H I J kp len a X th Z A Hi Im b Y L R hs
/-- one call of both: the same answer, or the same throw -/
def stp {α : Type} (mk : α → Value) (to : α → Int64) (S : ab_C) (N : Nat) (w : ab_W) (y : Nat) (as : List Value) (z : Nat) (bs : List Value) : Prop := ∃ k w1 w2 u F, k ≤ 3 ∧ ab_Cl y as w = some (.inl (some (.int (nI k))), w1) ∧ w1.2 0 = some S ∧ ab_isO 7 (w1.2 108) = true ∧ ab_Cl z bs w1 = some (.inl (some (mk u)), w2) ∧ ab_Cl 106 [.ref 108] w2 = some (.inl (some (.int (nI k))), w2) ∧ w2.2 118 = some (.inl (1, .inr (.inl F))) ∧ (k = 0 → F 0 = to u) ∧ LI S (N + 1) w2
/-- the same without a throw, and without the array between them -/
def stq (S : ab_C) (N : Nat) (w : ab_W) (y z : Nat) (v : Value) : Prop := ∃ w1 w2, ab_Cl y [.ref 3] w = some (.inl (some v), w1) ∧ w1.2 0 = some S ∧ ab_isO 7 (w1.2 108) = true ∧ ab_Cl z [.ref 108] w1 = some (.inl (some v), w2) ∧ LI S (N + 1) w2
section
variable {S : ab_C} {N : Nat} {g : ab_G} {σ σ' : ab_S} {F : Nat → Int64} {P P' : pv} {n n' : Nat} {H H' : Nat → pv} {I J I' J' : pv} {kp len kp' len' : Nat} {a a' : Nat → Nat} {X X' : Option ab_C} {th : Nat} {Z A Hi Im b Z' A' Hi' Im' b' : Nat → Nat} {Y Y' : mY} {L L' : mL} {R R' : mR} {hs hs' : Int64}
theorem mow_of (h : mow σ th Z A Hi Im b n kp len Y L R hs = σ) (f : ∀ i, 108 ≤ i → i < 118 → σ' i = σ i) : mow σ' th Z A Hi Im b n kp len Y L R hs = σ' := by
  funext i
  by_cases r : 108 ≤ i ∧ i < 118
  · have e := congrFun h i
    rw [f i r.1 r.2]
    refine Eq.trans ?_ e
    rcases (show i = 108 ∨ i = 109 ∨ i = 110 ∨ i = 111 ∨ i = 112 ∨ i = 113 ∨ i = 114 ∨ i = 115 ∨ i = 116 ∨ i = 117 by omega) with z | z | z | z | z | z | z | z | z | z
    · subst z
      rw [mow_108, mow_108]
    · subst z
      rw [mow_109, mow_109]
    · subst z
      rw [mow_110, mow_110]
    · subst z
      rw [mow_111, mow_111]
    · subst z
      rw [mow_112, mow_112]
    · subst z
      rw [mow_113, mow_113]
    · subst z
      rw [mow_114, mow_114]
    · subst z
      rw [mow_115, mow_115]
    · subst z
      rw [mow_116, mow_116]
    · subst z
      rw [mow_117, mow_117]
  · rw [mow_ne (by omega)]
theorem mow_id : mow (mow σ th Z A Hi Im b n kp len Y L R hs) th Z A Hi Im b n kp len Y L R hs = mow σ th Z A Hi Im b n kp len Y L R hs := by
  funext i
  by_cases r : 108 ≤ i ∧ i < 118
  · rcases (show i = 108 ∨ i = 109 ∨ i = 110 ∨ i = 111 ∨ i = 112 ∨ i = 113 ∨ i = 114 ∨ i = 115 ∨ i = 116 ∨ i = 117 by omega) with z | z | z | z | z | z | z | z | z | z
    · subst z
      rw [mow_108, mow_108]
    · subst z
      rw [mow_109, mow_109]
    · subst z
      rw [mow_110, mow_110]
    · subst z
      rw [mow_111, mow_111]
    · subst z
      rw [mow_112, mow_112]
    · subst z
      rw [mow_113, mow_113]
    · subst z
      rw [mow_114, mow_114]
    · subst z
      rw [mow_115, mow_115]
    · subst z
      rw [mow_116, mow_116]
    · subst z
      rw [mow_117, mow_117]
  · rw [mow_ne (by omega)]
theorem mow_o7 : ab_isO 7 (mow σ th Z A Hi Im b n kp len Y L R hs 108) = true := by
  rw [mow_108]
  rfl
theorem cw_o3 (h : cw σ P n H I J kp len a X) : ab_isO 0 (σ 3) = true := by
  rw [(cw0_hd (cw_0 h)).1]
  rfl
theorem cw_mow (h : cw σ P n H I J kp len a X) : cw (mow σ th Z A Hi Im b n' kp' len' Y L R hs) P n H I J kp len a X := cw_of h (fun i hi => mow_ne (Or.inl hi))
theorem LI_o (h : LI S N (g, σ)) : ab_isO 0 (σ 3) = true ∧ ab_isO 7 (σ 108) = true ∧ σ 0 = some S := by
  obtain ⟨F, P, n, H, I, J, kp, len, a, X, th, Z, A, Hi, Im, b, Y, L, R, hs, h1, h2, h3, h4, h5, h6, h7⟩ := h
  refine ⟨cw_o3 h5, ?_, h3⟩
  show ab_isO 7 (σ 108) = true
  have h6 : mow σ th Z A Hi Im b n kp len Y L R hs = σ := h6
  rw [← h6]
  exact mow_o7
/-- both refuse, by the k-th throw -/
theorem st_ref {α : Type} {mk : α → Value} {to : α → Int64} {y z k : Nat} {as bs : List Value} {u : α} (h : LJ S N g σ F P n H I J kp len a X th Z A Hi Im b Y L R hs) (hw : ab_Cl y as (g, σ) = some (.inl (some (.int (nI k))), (ab_th g, σ'))) (hc : cw σ' P n H I J kp len a X) (hf : ∀ i, i < 1 ∨ 108 ≤ i → σ' i = σ i) (hk : 1 ≤ k ∧ k ≤ 3) (hm : ab_Cl z bs (ab_th g, mow σ' th Z A Hi Im b n kp len Y L R hs) = some (.inl (some (mk u)), (ab_th g, mow σ' k Z A Hi Im b n kp len Y L' R' hs'))) : stp mk to S N (g, σ) y as z bs := by
  obtain ⟨h1, h2, h3, h4, -, h6, h7, h8, h9, h10, h11, h12⟩ := h
  rw [mow_of h6 (fun i hi _ => hf i (Or.inr hi))] at hm
  refine ⟨k, (ab_th g, σ'), (ab_th g, mow σ' k Z A Hi Im b n kp len Y L' R' hs'), u, F, hk.2, hw, (hf 0 (by omega)).trans h3, ?_, hm, m_thrown, ?_, fun e => by omega, ?_⟩
  · show ab_isO 7 (σ' 108) = true
    rw [hf 108 (by omega), ← h6]
    exact mow_o7
  · show mow σ' k Z A Hi Im b n kp len Y L' R' hs' 118 = _
    rw [mow_ne (by omega), hf 118 (by omega)]
    exact h4
  · refine ⟨F, P, n, H, I, J, kp, len, a, X, k, Z, A, Hi, Im, b, Y, L', R', hs', ?_, ?_, ?_, ?_, cw_mow hc, mow_id, h7, h8, h9, h10, h11, plR_s h12⟩
    · show g.2.2.1 + 1 ≤ 116 + (N + 1)
      omega
    · show g.2.2.2 + 6 ≤ 8498 + 6 * (N + 1)
      omega
    · show mow σ' k Z A Hi Im b n kp len Y L' R' hs' 0 = _
      rw [mow_ne (by omega), hf 0 (by omega)]
      exact h3
    · show mow σ' k Z A Hi Im b n kp len Y L' R' hs' 118 = _
      rw [mow_ne (by omega), hf 118 (by omega)]
      exact h4
/-- both answer -/
theorem st_ans {α : Type} {mk : α → Value} {to : α → Int64} {y z : Nat} {as bs : List Value} {u : α} (h : LJ S N g σ F P n H I J kp len a X th Z A Hi Im b Y L R hs) (hf : ∀ i, i < 1 ∨ 108 ≤ i → σ' i = σ i) (hw : σ' 118 = some (.inl (1, .inr (.inl F))) → ab_Cl y as (g, σ) = some (.inl (some (.int (nI 0))), (g, ab_up σ' 118 (some (.inl (1, .inr (.inl (ab_up F 0 (to u))))))))) (hm : ab_Cl z bs (g, mow (ab_up σ' 118 (some (.inl (1, .inr (.inl (ab_up F 0 (to u))))))) th Z A Hi Im b n kp len Y L R hs) = some (.inl (some (mk u)), (g, mow (ab_up σ' 118 (some (.inl (1, .inr (.inl (ab_up F 0 (to u))))))) 0 Z' A' Hi' Im' b' n' kp' len' Y' L' R' hs'))) (hc : cw σ' P' n' H' I' J' kp' len' a' X') (hz : zP Z' P') (hQ : okQ P') (hH : hiR n' H' Hi') (hI : imR kp' I' J' Im') (hB : inB len' a' b') (hY : plR (N + 1) P' X' Y') : stp mk to S N (g, σ) y as z bs := by
  obtain ⟨h1, h2, h3, h4, h5, h6, h7, h8, h9, h10, h11, h12⟩ := h
  have hw := hw ((hf 118 (by omega)).trans h4)
  rw [mow_of (σ' := ab_up σ' 118 (some (.inl (1, .inr (.inl (ab_up F 0 (to u))))))) h6 (fun i hi hi2 => by rw [b_un (by omega)]; exact hf i (Or.inr hi))] at hm
  generalize hG : ab_up F 0 (to u) = G at *
  have hG0 : G 0 = to u := by rw [← hG, b_us]
  generalize hT : ab_up σ' 118 (some (.inl (1, .inr (.inl G)))) = τ at *
  have t0 : τ 0 = some S := by rw [← hT, b_un (by omega), hf 0 (by omega)]; exact h3
  have t1 : τ 118 = some (.inl (1, .inr (.inl G))) := by rw [← hT, b_us]
  have tc : cw τ P' n' H' I' J' kp' len' a' X' := cw_of hc (fun i hi => by rw [← hT, b_un (by omega)])
  refine ⟨0, (g, τ), (g, mow τ 0 Z' A' Hi' Im' b' n' kp' len' Y' L' R' hs'), u, G, by omega, hw, t0, ?_, hm, m_thrown, ?_, fun _ => hG0, ?_⟩
  · show ab_isO 7 (τ 108) = true
    rw [← hT, b_un (by omega), hf 108 (by omega), ← h6]
    exact mow_o7
  · show mow τ 0 Z' A' Hi' Im' b' n' kp' len' Y' L' R' hs' 118 = _
    rw [mow_ne (by omega)]
    exact t1
  · refine ⟨G, P', n', H', I', J', kp', len', a', X', 0, Z', A', Hi', Im', b', Y', L', R', hs', ?_, ?_, ?_, ?_, cw_mow tc, mow_id, hz, hQ, hH, hI, hB, hY⟩
    · show g.2.2.1 ≤ 116 + (N + 1)
      omega
    · show g.2.2.2 ≤ 8498 + 6 * (N + 1)
      omega
    · show mow τ 0 Z' A' Hi' Im' b' n' kp' len' Y' L' R' hs' 0 = _
      rw [mow_ne (by omega)]
      exact t0
    · show mow τ 0 Z' A' Hi' Im' b' n' kp' len' Y' L' R' hs' 118 = _
      rw [mow_ne (by omega)]
      exact t1
/-- both answer at once -/
theorem st_qst {y z : Nat} {v : Value} (h : LJ S N g σ F P n H I J kp len a X th Z A Hi Im b Y L R hs) (hf : ∀ i, i < 1 ∨ 108 ≤ i → σ' i = σ i) (hw : ab_Cl y [.ref 3] (g, σ) = some (.inl (some v), (g, σ'))) (hm : ab_Cl z [.ref 108] (g, mow σ' th Z A Hi Im b n kp len Y L R hs) = some (.inl (some v), (g, mow σ' 0 Z A' Hi Im b' n kp len' Y L' R' hs'))) (hc : cw σ' P n H I J kp len' a' X) (hB : inB len' a' b') : stq S N (g, σ) y z v := by
  obtain ⟨h1, h2, h3, h4, h5, h6, h7, h8, h9, h10, h11, h12⟩ := h
  rw [mow_of h6 (fun i hi _ => hf i (Or.inr hi))] at hm
  refine ⟨(g, σ'), (g, mow σ' 0 Z A' Hi Im b' n kp len' Y L' R' hs'), hw, (hf 0 (by omega)).trans h3, ?_, hm, ?_⟩
  · show ab_isO 7 (σ' 108) = true
    rw [hf 108 (by omega), ← h6]
    exact mow_o7
  · refine ⟨F, P, n, H, I, J, kp, len', a', X, 0, Z, A', Hi, Im, b', Y, L', R', hs', ?_, ?_, ?_, ?_, cw_mow hc, mow_id, h7, h8, h9, h10, hB, plR_s h12⟩
    · show g.2.2.1 ≤ 116 + (N + 1)
      omega
    · show g.2.2.2 ≤ 8498 + 6 * (N + 1)
      omega
    · show mow σ' 0 Z A' Hi Im b' n kp len' Y L' R' hs' 0 = _
      rw [mow_ne (by omega), hf 0 (by omega)]
      exact h3
    · show mow σ' 0 Z A' Hi Im b' n kp len' Y L' R' hs' 118 = _
      rw [mow_ne (by omega), hf 118 (by omega)]
      exact h4
/-- the history after a change -/
theorem hiR_rec (h : hiR n H Hi) (hz : zP Z P) (hQ : okQ P) (r : s_rem n H H' P) : hiR (s_n1 n) H' (m_hs Hi Z n) := by
  obtain ⟨h8, h1⟩ := h
  obtain ⟨r1, r2⟩ := r
  have hf := okP_fit hQ.1
  by_cases e : n = 8
  · subst e
    refine ⟨Nat.le_refl 8, fun j hj => ?_⟩
    have hj : j < 8 := hj
    by_cases y : j < 7
    · have q : H' j = H (j + 1) := r1 j y
      rw [q]
      obtain ⟨k1, k2⟩ := h1 (j + 1) (by omega)
      refine ⟨zP_c k1 (fun i hi => ?_) (okP_fit k2.1), k2⟩
      show m_hs Hi Z 8 (193 * j + i) = Hi (193 * (j + 1) + i)
      unfold m_hs ncp
      rw [if_pos rfl, if_neg (by omega)]
      show (if 193 * j + i < 1351 then Hi (193 * j + i + 193) else Hi (193 * j + i)) = _
      rw [if_pos (by omega), show 193 * j + i + 193 = 193 * (j + 1) + i by omega]
    · obtain rfl : j = 7 := by omega
      have q : eqv (H' 7) P := r2
      refine ⟨zP_of (zP_c hz (fun i hi => ?_) hf) (eqv_s q), okQ_c (eqv_s q) hQ⟩
      show m_hs Hi Z 8 (193 * 7 + i) = Z i
      unfold m_hs ncp
      rw [if_pos rfl, if_pos (by omega), show 0 + (193 * 7 + i - 1351) = i by omega]
  · rw [if_neg e] at r2
    have sn : s_n1 n = n + 1 := if_neg e
    rw [sn]
    refine ⟨by omega, fun j hj => ?_⟩
    by_cases y : j < n
    · have q : H' j = H j := by
        have := r1 j (by rw [if_neg e]; exact y)
        rw [if_neg e] at this
        exact this
      rw [q]
      obtain ⟨k1, k2⟩ := h1 j y
      refine ⟨zP_c k1 (fun i hi => ?_) (okP_fit k2.1), k2⟩
      show m_hs Hi Z n (193 * j + i) = Hi (193 * j + i)
      unfold m_hs ncp
      rw [if_neg e, if_neg (by omega)]
    · obtain rfl : j = n := by omega
      refine ⟨zP_of (zP_c hz (fun i hi => ?_) hf) (eqv_s r2), okQ_c (eqv_s r2) hQ⟩
      show m_hs Hi Z j (193 * j + i) = Z i
      unfold m_hs ncp
      rw [if_neg e, if_pos (by omega), show 0 + (193 * j + i - 193 * j) = i by omega]
/-- a change of the piece, while nothing plays -/
theorem st_chg {α : Type} {mk : α → Value} {to : α → Int64} {y z : Nat} {as bs : List Value} {u : α} {T Q : pv} (h : LJ S N g σ F P n H I J kp len a X th Z A Hi Im b Y L R hs) (hn : Y.1 = 0) (hX : pbOn X 0) (hf : ∀ i, i < 1 ∨ 108 ≤ i → σ' i = σ i) (hw : σ' 118 = some (.inl (1, .inr (.inl F))) → ab_Cl y as (g, σ) = some (.inl (some (.int (nI 0))), (g, ab_up σ' 118 (some (.inl (1, .inr (.inl (ab_up F 0 (to u))))))))) (hm : ∀ τ : ab_S, ∃ Z' R', zP Z' T ∧ ab_Cl z bs (g, mow τ th Z A Hi Im b n kp len Y L R hs) = some (.inl (some (mk u)), (g, mow τ 0 Z' A (m_hs Hi Z n) Im b (s_n1 n) kp len' Y L R' hs))) (hc : cw σ' Q (s_n1 n) H' I J kp len' a X) (hr : s_rem n H H' P) (he : eqv Q T) (hT : okQ T) (hl : len' ≤ len) : stp mk to S N (g, σ) y as z bs := by
  obtain ⟨Z', R', k1, k2⟩ := hm (ab_up σ' 118 (some (.inl (1, .inr (.inl (ab_up F 0 (to u)))))))
  obtain ⟨h1, h2, h3, h4, h5, h6, h7, h8, h9, h10, h11, h12⟩ := id h
  exact st_ans h hf hw k2 hc (zP_of k1 (eqv_s he)) (okQ_c (eqv_s he) hT) (hiR_rec h9 h7 h8 hr) h10 ⟨h11.1, by have := h11.2.1; omega, fun i hi => h11.2.2 i (by omega)⟩ (Or.inl ⟨hn, hX⟩)
end
