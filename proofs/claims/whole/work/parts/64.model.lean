/-! ===== the model's world: ids 108 to 117 ===== -/
/-- playing, from which bar, count-in, speed, clock -/
abbrev mY : Type := Nat × Nat × Nat × Nat × Nat
/-- bars of beats, begins, lengths, end -/
abbrev mL : Type := (Nat → Nat) × (Nat → Nat) × (Nat → Nat) × Nat
/-- what is read: rows; bars, place, number, has a digit -/
abbrev mR : Type := (Nat → Nat) × Nat × Nat × Nat × Nat
def mow (σ : ab_S) (th : Nat) (Z A Hi Im b : Nat → Nat) (st kp len : Nat) (Y : mY) (L : mL) (R : mR) (hs : Int64) : ab_S := fun i =>
  if i = 108 then some (.inr (7, [.int (nI th), .ref 109, .ref 110, .int (nI st), .ref 111, .int (nI kp), .ref 112, .int (nI len), .ref 113, .int (nI Y.1), .int (nI Y.2.1), .int (nI Y.2.2.1), .int (nI Y.2.2.2.1), .long (lN Y.2.2.2.2), .ref 114, .ref 115, .ref 116, .long (lN L.2.2.2), .int (nI R.2.1), .ref 117, .int (nI R.2.2.1), .int (nI R.2.2.2.1), .int (nI R.2.2.2.2), .long hs]))
  else if i = 109 then some (.inl (193, .inl (fun j => nI (Z j))))
  else if i = 110 then some (.inl (193, .inl (fun j => nI (A j))))
  else if i = 111 then some (.inl (1544, .inl (fun j => nI (Hi j))))
  else if i = 112 then some (.inl (386, .inl (fun j => nI (Im j))))
  else if i = 113 then some (.inl (60, .inl (fun j => nI (b j))))
  else if i = 114 then some (.inl (288, .inl (fun j => nI (L.1 j))))
  else if i = 115 then some (.inl (288, .inr (.inl (fun j => lN (L.2.1 j)))))
  else if i = 116 then some (.inl (288, .inr (.inl (fun j => lN (L.2.2.1 j)))))
  else if i = 117 then some (.inl (160, .inl (fun j => nI (R.1 j))))
  else σ i
section
variable {σ : ab_S} {th : Nat} {Z A Hi Im b : Nat → Nat} {st kp len : Nat} {Y : mY} {L : mL} {R : mR} {hs : Int64}
theorem mow_108 : mow σ th Z A Hi Im b st kp len Y L R hs 108 = some (.inr (7, [.int (nI th), .ref 109, .ref 110, .int (nI st), .ref 111, .int (nI kp), .ref 112, .int (nI len), .ref 113, .int (nI Y.1), .int (nI Y.2.1), .int (nI Y.2.2.1), .int (nI Y.2.2.2.1), .long (lN Y.2.2.2.2), .ref 114, .ref 115, .ref 116, .long (lN L.2.2.2), .int (nI R.2.1), .ref 117, .int (nI R.2.2.1), .int (nI R.2.2.2.1), .int (nI R.2.2.2.2), .long hs])) := if_pos rfl
theorem mow_109 : mow σ th Z A Hi Im b st kp len Y L R hs 109 = some (.inl (193, .inl (fun j => nI (Z j)))) := by
  unfold mow
  rw [if_neg (by omega), if_pos rfl]
theorem mow_110 : mow σ th Z A Hi Im b st kp len Y L R hs 110 = some (.inl (193, .inl (fun j => nI (A j)))) := by
  unfold mow
  rw [if_neg (by omega), if_neg (by omega), if_pos rfl]
theorem mow_111 : mow σ th Z A Hi Im b st kp len Y L R hs 111 = some (.inl (1544, .inl (fun j => nI (Hi j)))) := by
  unfold mow
  rw [if_neg (by omega), if_neg (by omega), if_neg (by omega), if_pos rfl]
theorem mow_112 : mow σ th Z A Hi Im b st kp len Y L R hs 112 = some (.inl (386, .inl (fun j => nI (Im j)))) := by
  unfold mow
  rw [if_neg (by omega), if_neg (by omega), if_neg (by omega), if_neg (by omega), if_pos rfl]
theorem mow_113 : mow σ th Z A Hi Im b st kp len Y L R hs 113 = some (.inl (60, .inl (fun j => nI (b j)))) := by
  unfold mow
  rw [if_neg (by omega), if_neg (by omega), if_neg (by omega), if_neg (by omega), if_neg (by omega), if_pos rfl]
theorem mow_114 : mow σ th Z A Hi Im b st kp len Y L R hs 114 = some (.inl (288, .inl (fun j => nI (L.1 j)))) := by
  unfold mow
  rw [if_neg (by omega), if_neg (by omega), if_neg (by omega), if_neg (by omega), if_neg (by omega), if_neg (by omega), if_pos rfl]
theorem mow_115 : mow σ th Z A Hi Im b st kp len Y L R hs 115 = some (.inl (288, .inr (.inl (fun j => lN (L.2.1 j))))) := by
  unfold mow
  rw [if_neg (by omega), if_neg (by omega), if_neg (by omega), if_neg (by omega), if_neg (by omega), if_neg (by omega), if_neg (by omega), if_pos rfl]
theorem mow_116 : mow σ th Z A Hi Im b st kp len Y L R hs 116 = some (.inl (288, .inr (.inl (fun j => lN (L.2.2.1 j))))) := by
  unfold mow
  rw [if_neg (by omega), if_neg (by omega), if_neg (by omega), if_neg (by omega), if_neg (by omega), if_neg (by omega), if_neg (by omega), if_neg (by omega), if_pos rfl]
theorem mow_117 : mow σ th Z A Hi Im b st kp len Y L R hs 117 = some (.inl (160, .inl (fun j => nI (R.1 j)))) := by
  unfold mow
  rw [if_neg (by omega), if_neg (by omega), if_neg (by omega), if_neg (by omega), if_neg (by omega), if_neg (by omega), if_neg (by omega), if_neg (by omega), if_neg (by omega), if_pos rfl]
theorem mow_ne {i : Nat} (h : i < 108 ∨ 118 ≤ i) : mow σ th Z A Hi Im b st kp len Y L R hs i = σ i := by
  unfold mow
  rw [if_neg (by omega), if_neg (by omega), if_neg (by omega), if_neg (by omega), if_neg (by omega), if_neg (by omega), if_neg (by omega), if_neg (by omega), if_neg (by omega), if_neg (by omega)]
theorem mu_108 {th' st' kp' len' pl' fb' ci' sp' ck' en' rb' pc' nm' hd' : Nat} {hs' : Int64} : ab_up (mow σ th Z A Hi Im b st kp len Y L R hs) 108 (some (.inr (7, [.int (nI th'), .ref 109, .ref 110, .int (nI st'), .ref 111, .int (nI kp'), .ref 112, .int (nI len'), .ref 113, .int (nI pl'), .int (nI fb'), .int (nI ci'), .int (nI sp'), .long (lN ck'), .ref 114, .ref 115, .ref 116, .long (lN en'), .int (nI rb'), .ref 117, .int (nI pc'), .int (nI nm'), .int (nI hd'), .long hs']))) = mow σ th' Z A Hi Im b st' kp' len' (pl', fb', ci', sp', ck') (L.1, L.2.1, L.2.2.1, en') (R.1, rb', pc', nm', hd') hs' := by
  funext i
  unfold ab_up mow
  by_cases h : i = 108
  · rw [if_pos h, if_pos h]
  · rw [if_neg h, if_neg h, if_neg h]
theorem mu_109 {F : Nat → Nat} : ab_up (mow σ th Z A Hi Im b st kp len Y L R hs) 109 (some (.inl (193, .inl (fun j => nI (F j))))) = mow σ th F A Hi Im b st kp len Y L R hs := by
  funext i
  unfold ab_up mow
  by_cases h : i = 109
  · rw [if_pos h, if_neg (by omega), if_pos h]
  · rw [if_neg h]
    simp only [if_neg h]
theorem mu_110 {F : Nat → Nat} : ab_up (mow σ th Z A Hi Im b st kp len Y L R hs) 110 (some (.inl (193, .inl (fun j => nI (F j))))) = mow σ th Z F Hi Im b st kp len Y L R hs := by
  funext i
  unfold ab_up mow
  by_cases h : i = 110
  · rw [if_pos h, if_neg (by omega), if_neg (by omega), if_pos h]
  · rw [if_neg h]
    simp only [if_neg h]
theorem mu_111 {F : Nat → Nat} : ab_up (mow σ th Z A Hi Im b st kp len Y L R hs) 111 (some (.inl (1544, .inl (fun j => nI (F j))))) = mow σ th Z A F Im b st kp len Y L R hs := by
  funext i
  unfold ab_up mow
  by_cases h : i = 111
  · rw [if_pos h, if_neg (by omega), if_neg (by omega), if_neg (by omega), if_pos h]
  · rw [if_neg h]
    simp only [if_neg h]
theorem mu_112 {F : Nat → Nat} : ab_up (mow σ th Z A Hi Im b st kp len Y L R hs) 112 (some (.inl (386, .inl (fun j => nI (F j))))) = mow σ th Z A Hi F b st kp len Y L R hs := by
  funext i
  unfold ab_up mow
  by_cases h : i = 112
  · rw [if_pos h, if_neg (by omega), if_neg (by omega), if_neg (by omega), if_neg (by omega), if_pos h]
  · rw [if_neg h]
    simp only [if_neg h]
theorem mu_113 {F : Nat → Nat} : ab_up (mow σ th Z A Hi Im b st kp len Y L R hs) 113 (some (.inl (60, .inl (fun j => nI (F j))))) = mow σ th Z A Hi Im F st kp len Y L R hs := by
  funext i
  unfold ab_up mow
  by_cases h : i = 113
  · rw [if_pos h, if_neg (by omega), if_neg (by omega), if_neg (by omega), if_neg (by omega), if_neg (by omega), if_pos h]
  · rw [if_neg h]
    simp only [if_neg h]
theorem mu_114 {F : Nat → Nat} : ab_up (mow σ th Z A Hi Im b st kp len Y L R hs) 114 (some (.inl (288, .inl (fun j => nI (F j))))) = mow σ th Z A Hi Im b st kp len Y (F, L.2) R hs := by
  funext i
  unfold ab_up mow
  by_cases h : i = 114
  · rw [if_pos h, if_neg (by omega), if_neg (by omega), if_neg (by omega), if_neg (by omega), if_neg (by omega), if_neg (by omega), if_pos h]
  · rw [if_neg h]
    simp only [if_neg h]
theorem mu_115 {F : Nat → Nat} : ab_up (mow σ th Z A Hi Im b st kp len Y L R hs) 115 (some (.inl (288, .inr (.inl (fun j => lN (F j)))))) = mow σ th Z A Hi Im b st kp len Y (L.1, F, L.2.2) R hs := by
  funext i
  unfold ab_up mow
  by_cases h : i = 115
  · rw [if_pos h, if_neg (by omega), if_neg (by omega), if_neg (by omega), if_neg (by omega), if_neg (by omega), if_neg (by omega), if_neg (by omega), if_pos h]
  · rw [if_neg h]
    simp only [if_neg h]
theorem mu_116 {F : Nat → Nat} : ab_up (mow σ th Z A Hi Im b st kp len Y L R hs) 116 (some (.inl (288, .inr (.inl (fun j => lN (F j)))))) = mow σ th Z A Hi Im b st kp len Y (L.1, L.2.1, F, L.2.2.2) R hs := by
  funext i
  unfold ab_up mow
  by_cases h : i = 116
  · rw [if_pos h, if_neg (by omega), if_neg (by omega), if_neg (by omega), if_neg (by omega), if_neg (by omega), if_neg (by omega), if_neg (by omega), if_neg (by omega), if_pos h]
  · rw [if_neg h]
    simp only [if_neg h]
theorem mu_117 {F : Nat → Nat} : ab_up (mow σ th Z A Hi Im b st kp len Y L R hs) 117 (some (.inl (160, .inl (fun j => nI (F j))))) = mow σ th Z A Hi Im b st kp len Y L (F, R.2) hs := by
  funext i
  unfold ab_up mow
  by_cases h : i = 117
  · rw [if_pos h, if_neg (by omega), if_neg (by omega), if_neg (by omega), if_neg (by omega), if_neg (by omega), if_neg (by omega), if_neg (by omega), if_neg (by omega), if_neg (by omega), if_pos h]
  · rw [if_neg h]
    simp only [if_neg h]
end
/-- a row of numbers holds the piece -/
def zP (Z : Nat → Nat) (P : pv) : Prop := Z 190 = P.1 ∧ Z 191 = P.2.1 ∧ Z 192 = P.2.2.1 ∧ (∀ j, j < 5 * P.1 → Z j = P.2.2.2.1 j) ∧ (∀ j, j < 3 * P.2.1 → Z (120 + j) = P.2.2.2.2.1 j) ∧ ∀ j, j < 3 * P.2.2.1 → Z (153 + j) = P.2.2.2.2.2 j
theorem zP_of {Z : Nat → Nat} {P Q : pv} (h : zP Z P) (e : eqv P Q) : zP Z Q := by
  obtain ⟨h1, h2, h3, h4, h5, h6⟩ := h
  obtain ⟨e1, e2, e3, e4, e5, e6⟩ := e
  exact ⟨h1.trans e1, h2.trans e2, h3.trans e3, fun j hj => (h4 j (by omega)).trans (e4 j (by omega)), fun j hj => (h5 j (by omega)).trans (e5 j (by omega)), fun j hj => (h6 j (by omega)).trans (e6 j (by omega))⟩
theorem zP_c {Z V : Nat → Nat} {P : pv} (h : zP Z P) (e : ∀ j, j < 193 → V j = Z j) (hP : pfit P) : zP V P := by
  obtain ⟨h1, h2, h3, h4, h5, h6⟩ := h
  obtain ⟨p1, p2, p3⟩ := hP
  exact ⟨(e _ (by omega)).trans h1, (e _ (by omega)).trans h2, (e _ (by omega)).trans h3, fun j hj => (e _ (by omega)).trans (h4 j hj), fun j hj => (e _ (by omega)).trans (h5 j hj), fun j hj => (e _ (by omega)).trans (h6 j hj)⟩
