/-- what image writes -/
def CyI (S Z : PS) : Prop := (∀ k, k ≠ 55 → Z k = S k) ∧ (∀ x, x < 64 → Z 55 x = S 31 x) ∧ (∀ x, x < 48 → Z 55 (64 + x) = S 33 x) ∧ (∀ x, x < 24 → Z 55 (112 + x) = S 36 x) ∧ Z 55 136 = S 29 0 ∧ Z 55 137 = S 29 2 ∧ Z 55 138 = S 37 0 ∧ Z 55 139 = S 37 1 ∧ ∀ x, 140 ≤ x → Z 55 x = S 55 x
theorem cyS0_at {S : PS} : CyI S (cyS0 S) := by
  unfold CyI
  obtain ⟨a1, a2⟩ := cy0_at (k := 31) (q := 0) (S := S) (by omega) 64
  obtain ⟨b1, b2⟩ := cy0_at (k := 33) (q := 64) (S := cy0 31 0 S 64) (by omega) 48
  obtain ⟨c1, c2⟩ := cy0_at (k := 36) (q := 112) (S := cy0 33 64 (cy0 31 0 S 64) 48) (by omega) 24
  unfold cyS0
  generalize cy0 36 112 (cy0 33 64 (cy0 31 0 S 64) 48) 24 = D3 at *
  generalize cy0 33 64 (cy0 31 0 S 64) 48 = D2 at *
  generalize cy0 31 0 S 64 = D1 at *
  have d1 : ∀ k, k ≠ 55 → D3 k = S k := fun k hk => by rw [c1 k hk, b1 k hk, a1 k hk]
  have e55 : ∀ x, x ≠ 136 → x ≠ 137 → x ≠ 138 → x ≠ 139 → cyT0 D3 55 x = D3 55 x := fun x h1 h2 h3 h4 => by
    unfold cyT0
    simp [upT, h1, h2, h3, h4]
  refine ⟨fun k hk => ?_, fun x hx => ?_, fun x hx => ?_, fun x hx => ?_, ?_, ?_, ?_, ?_, fun x hx => ?_⟩
  · rw [← d1 k hk]
    funext x
    unfold cyT0 upT
    by_cases e9 : k = 29
    · subst e9
      by_cases x0 : x = 0
      · subst x0; simp
      · by_cases x2 : x = 2
        · subst x2; simp
        · simp [x0, x2]
    · by_cases e7 : k = 37
      · subst e7
        by_cases x0 : x = 0
        · subst x0; simp
        · by_cases x2 : x = 1
          · subst x2; simp
          · simp [x0, x2]
      · simp [hk, e9, e7]
  · rw [e55 x (by omega) (by omega) (by omega) (by omega), c2, if_neg (by omega), b2, if_neg (by omega), a2, if_pos (by omega)]; rfl
  · rw [e55 _ (by omega) (by omega) (by omega) (by omega), c2, if_neg (by omega), b2, if_pos (by omega), a1 33 (by omega), show 64 + x - 64 = x by omega]
  · rw [e55 _ (by omega) (by omega) (by omega) (by omega), c2, if_pos (by omega), b1 36 (by omega), a1 36 (by omega), show 112 + x - 112 = x by omega]
  · rw [← d1 29 (by omega)]; simp [cyT0, upT]
  · rw [← d1 29 (by omega)]; simp [cyT0, upT]
  · rw [← d1 37 (by omega)]; simp [cyT0, upT]
  · rw [← d1 37 (by omega)]; simp [cyT0, upT]
  · rw [e55 x (by omega) (by omega) (by omega) (by omega), c2, if_neg (by omega), b2, if_neg (by omega), a2, if_neg (by omega)]
/-- what restore writes -/
def CyR (S Z : PS) : Prop := (∀ k, k ≠ 31 → k ≠ 33 → k ≠ 36 → k ≠ 37 → k ≠ 29 → Z k = S k) ∧ (∀ x, x < 64 → Z 31 x = S 55 x) ∧ (∀ x, 64 ≤ x → Z 31 x = S 31 x) ∧ (∀ x, x < 48 → Z 33 x = S 55 (64 + x)) ∧ (∀ x, 48 ≤ x → Z 33 x = S 33 x) ∧ (∀ x, x < 24 → Z 36 x = S 55 (112 + x)) ∧ (∀ x, 24 ≤ x → Z 36 x = S 36 x) ∧ Z 29 0 = S 55 136 ∧ Z 29 2 = S 55 137 ∧ (∀ x, x ≠ 0 → x ≠ 2 → Z 29 x = S 29 x) ∧ Z 37 0 = S 55 138 ∧ Z 37 1 = S 55 139 ∧ ∀ x, 2 ≤ x → Z 37 x = S 37 x
theorem cyS1_at {S : PS} : CyR S (cyS1 S) := by
  unfold CyR
  obtain ⟨a1, a2⟩ := cy1_at (k := 31) (q := 0) (S := S) (by omega) 64
  obtain ⟨b1, b2⟩ := cy1_at (k := 33) (q := 64) (S := cy1 31 0 S 64) (by omega) 48
  obtain ⟨c1, c2⟩ := cy1_at (k := 36) (q := 112) (S := cy1 33 64 (cy1 31 0 S 64) 48) (by omega) 24
  unfold cyS1
  generalize cy1 36 112 (cy1 33 64 (cy1 31 0 S 64) 48) 24 = D3 at *
  generalize cy1 33 64 (cy1 31 0 S 64) 48 = D2 at *
  generalize cy1 31 0 S 64 = D1 at *
  have e55 : D3 55 = S 55 := by rw [c1 55 (by omega), b1 55 (by omega), a1 55 (by omega)]
  have e29 : D3 29 = S 29 := by rw [c1 29 (by omega), b1 29 (by omega), a1 29 (by omega)]
  have e37 : D3 37 = S 37 := by rw [c1 37 (by omega), b1 37 (by omega), a1 37 (by omega)]
  have kk : ∀ k, k ≠ 29 → k ≠ 37 → cyT1 D3 k = D3 k := fun k h1 h2 => by
    funext x
    unfold cyT1 upT
    by_cases e : k = 55
    · subst e
      by_cases x0 : x = 136
      · subst x0; simp
      · by_cases x1 : x = 137
        · subst x1; simp
        · by_cases x2 : x = 138
          · subst x2; simp
          · by_cases x3 : x = 139
            · subst x3; simp
            · simp [x0, x1, x2, x3]
    · simp [e, h1, h2]
  refine ⟨fun k h1 h2 h3 h4 h5 => ?_, fun x hx => ?_, fun x hx => ?_, fun x hx => ?_, fun x hx => ?_, fun x hx => ?_, fun x hx => ?_, ?_, ?_, fun x h0 h2 => ?_, ?_, ?_, fun x hx => ?_⟩
  · rw [kk k h5 h4, c1 k h3, b1 k h2, a1 k h1]
  · rw [kk 31 (by omega) (by omega), c1 31 (by omega), b1 31 (by omega), a2, if_pos hx, show 0 + x = x by omega]
  · rw [kk 31 (by omega) (by omega), c1 31 (by omega), b1 31 (by omega), a2, if_neg (by omega)]
  · rw [kk 33 (by omega) (by omega), c1 33 (by omega), b2, if_pos hx, a1 55 (by omega)]
  · rw [kk 33 (by omega) (by omega), c1 33 (by omega), b2, if_neg (by omega), a1 33 (by omega)]
  · rw [kk 36 (by omega) (by omega), c2, if_pos hx, b1 55 (by omega), a1 55 (by omega)]
  · rw [kk 36 (by omega) (by omega), c2, if_neg (by omega), b1 36 (by omega), a1 36 (by omega)]
  · rw [← e55]; simp [cyT1, upT]
  · rw [← e55]; simp [cyT1, upT]
  · rw [← e29]; simp [cyT1, upT, h0, h2]
  · rw [← e55]; simp [cyT1, upT]
  · rw [← e55]; simp [cyT1, upT]
  · rw [← e37]; simp [cyT1, upT, show x ≠ 0 by omega, show x ≠ 1 by omega]
