-- ===== the course of days: the class's against the model's =====
/-- what of the book and the law is alike -/
def CR (β L S : PS) (l : Nat) : Prop := BkR β (bkM S) ∧ LwR L (S 37 l) (fun k => S 36 (12 * l + k)) ∧ (∀ d : Nat, (d : Int) < β 12 0 → (0 ≤ β 4 d ∧ β 4 d ≤ 1) ∧ 0 ≤ β 3 d) ∧ (0 ≤ β 12 0 ∧ β 12 0 ≤ 8) ∧ L 0 0 ≤ 10
theorem CR.wf {β L S D : PS} {l : Nat} (h : CR β L S l) (w : WF S D) : CR β L D l := by
  unfold CR
  rw [bkM_congr (S := S) (w.1 _ (by omega) (by omega)) (w.1 _ (by omega) (by omega)) (w.2 _ (by omega)) (w.2 _ (by omega)), w.1 36 (by omega) (by omega), w.1 37 (by omega) (by omega)]
  exact h
/-- the debts at a day: the class's course T, the model's days D -/
def DR (β T D : PS) (y : Int) : Prop := T 10 2 = y ∧ ∀ d : Nat, (d : Int) < β 12 0 → D 39 d = (if β 1 d ≤ y then T 11 d else 0) ∧ D 40 d = T 12 d ∧ (y < β 1 d → T 11 d = β 0 d * 10000 ∧ T 12 d = 0) ∧ D 41 d = T 13 d ∧ D 42 d = (if T 15 d = -1 then -4 else T 15 d) ∧ -1 ≤ T 15 d ∧ 0 ≤ T 11 d ∧ 0 ≤ T 12 d
theorem runToL_at {β S : PS} {tg : Int} : ∀ n d, d < n → runToL β S tg n 12 d = runOnS β S d (tg - max (S 10 2) (β 1 d)) 12 d
  | 0, d, h => by omega
  | n + 1, d, h => by
    unfold runToL
    by_cases e : d = n
    · subst e
      have h11 : runToL β S tg d 11 d = S 11 d := by rw [runToL_k (by omega)]
      have h12 : runToL β S tg d 12 d = S 12 d := runToL_x d d (Nat.le_refl d)
      unfold runOnS
      split
      · exact h12
      · split
        · rw [upT_self, upT_self, h11, h12]
        · rw [upT_self, upT_self, h11, h12]
    · rw [runOnS_x e]
      exact runToL_at n d (by omega)
theorem runToS_12 {β S : PS} {tg : Int} {d : Nat} (hd : (d : Int) < β 12 0) (ht : S 10 2 < tg) : runToS β S tg 12 d = runOnS β S d (tg - max (S 10 2) (β 1 d)) 12 d := by
  unfold runToS
  rw [if_neg (by omega), upT_k (by omega), upT_k (by omega)]
  exact runToL_at _ d (by omega)
theorem runToS_day {β S : PS} {tg : Int} (ht : S 10 2 < tg) : runToS β S tg 10 2 = tg ∧ runToS β S tg 10 3 = -1 := by
  unfold runToS
  rw [if_neg (by omega)]
  exact ⟨by rw [upT_x (by omega), upT_self], upT_self⟩
theorem runToS_id {β S : PS} {tg : Int} (ht : tg ≤ S 10 2) : runToS β S tg = S := by
  unfold runToS
  rw [if_pos ht]
theorem runOnS_0 {β S : PS} {d : Nat} {days : Int} (h : days ≤ 0) : runOnS β S d days = S := by
  unfold runOnS
  rw [if_pos (Or.inl h)]
/-- one day more -/
theorem runOnS_1 {β S : PS} {d : Nat} {days : Int} (h : 0 ≤ days) (h4 : 0 ≤ β 4 d ∧ β 4 d ≤ 1) : runOnS β S d (days + 1) 12 d = runOnS β S d days 12 d + (if β 4 d = 1 then S 11 d + runOnS β S d days 12 d else S 11 d) * β 3 d / 10000 := by
  by_cases c3 : β 3 d = 0
  · unfold runOnS
    rw [if_pos (Or.inr c3), if_pos (Or.inr c3), c3]
    simp
  · by_cases c4 : β 4 d = 0
    · rw [if_neg (show ¬ β 4 d = 1 by omega)]
      by_cases c : days ≤ 0
      · have : days = 0 := by omega
        subst this
        rw [runOnS_0 (Int.le_refl 0)]
        unfold runOnS
        rw [if_neg (by omega), if_pos c4, upT_self]
        simp
      · unfold runOnS
        rw [if_neg (by omega), if_pos c4, if_neg (by omega), if_pos c4, upT_self, upT_self, Int.mul_add]
        omega
    · rw [if_pos (show β 4 d = 1 by omega)]
      by_cases c : days ≤ 0
      · have : days = 0 := by omega
        subst this
        rw [runOnS_0 (Int.le_refl 0)]
        unfold runOnS
        rw [if_neg (by omega), if_neg c4, upT_self]
        rfl
      · unfold runOnS
        rw [if_neg (by omega), if_neg c4, if_neg (by omega), if_neg c4, upT_self, upT_self, show (days + 1).toNat = days.toNat + 1 by omega]
        rfl
/-- one day: runOn of the model -/
theorem run_step {β L T D : PS} {l : Nat} {y : Int} (hC : CR β L D l) (h0 : T 10 2 ≤ y) (hR : DR β (runToS β T y) D y) : DR β (runToS β T (y + 1)) (rnS D (y + 1)) (y + 1) := by
  obtain ⟨h1, h2⟩ := hR
  obtain ⟨⟨b12, -, b8, -, -, -⟩, -, h4, h8, -⟩ := hC
  have b12' : β 12 0 = D 29 0 := b12
  refine ⟨(runToS_day (by omega)).1, fun d hd => ?_⟩
  obtain ⟨a1, a2, a3, a4, a5, a6, a7, a8⟩ := h2 d hd
  have f0 : β 0 d = D 31 (8 * d) := b8 d hd 0 (by omega)
  have f1 : β 1 d = D 31 (8 * d + 1) := b8 d hd 1 (by omega)
  have f3 : β 3 d = D 31 (8 * d + 3) := b8 d hd 3 (by omega)
  have f4 : β 4 d = D 31 (8 * d + 4) := b8 d hd 4 (by omega)
  obtain ⟨g4, g3⟩ := h4 d hd
  have k11 : runToS β T (y + 1) 11 d = T 11 d := by rw [runToS_k (by omega)]
  have k13 : runToS β T (y + 1) 13 d = T 13 d := by rw [runToS_k (by omega)]
  have k15 : runToS β T (y + 1) 15 d = T 15 d := by rw [runToS_k (by omega)]
  rw [runToS_k (by omega)] at a1 a3 a4 a5 a6 a7
  have dn : d < (D 29 0).toNat := by omega
  have m39 := rnL_at (S := D) (y := y + 1) (k := 39) _ d dn
  have m40 := rnL_at (S := D) (y := y + 1) (k := 40) _ d dn
  have m41 := rnL_at (S := D) (y := y + 1) (k := 41) _ d dn
  have m42 := rnL_at (S := D) (y := y + 1) (k := 42) _ d dn
  have r1 : runToS β T (y + 1) 12 d = runOnS β T d (y + 1 - max (T 10 2) (β 1 d)) 12 d := runToS_12 hd (by omega)
  have r0 : runToS β T y 12 d = runOnS β T d (y - max (T 10 2) (β 1 d)) 12 d := by
    by_cases c : T 10 2 < y
    · exact runToS_12 hd c
    · rw [runToS_id (by omega), runOnS_0 (by omega)]
  unfold rnS
  rw [m39, m40, m41, m42, k11, k13, k15]
  rcases Int.lt_trichotomy (β 1 d) (y + 1) with c | c | c
  · have e1 : rn1 D (y + 1) d = upT D 40 d (D 40 d + (if D 31 (8 * d + 4) = 1 then D 39 d + D 40 d else D 39 d) * D 31 (8 * d + 3) / 10000) := by
      unfold rn1
      rw [if_neg (by omega), if_pos (by omega)]
    have a1' : D 39 d = T 11 d := by rw [a1, if_pos (by omega)]
    have e2 : runToS β T (y + 1) 12 d = runToS β T y 12 d + (if β 4 d = 1 then T 11 d + runToS β T y 12 d else T 11 d) * β 3 d / 10000 := by
      rw [r1, show y + 1 - max (T 10 2) (β 1 d) = y - max (T 10 2) (β 1 d) + 1 by omega, runOnS_1 (by omega) g4, ← r0]
    rw [e1, upT_self, upT_k (by omega), upT_k (by omega), upT_k (by omega), e2, a2, a1', f3, f4, if_pos (by omega)]
    have e3 : 0 ≤ (if D 31 (8 * d + 4) = 1 then T 11 d + runToS β T y 12 d else T 11 d) * D 31 (8 * d + 3) / 10000 := by
      refine Int.ediv_nonneg (Int.mul_nonneg ?_ (by omega)) (by omega)
      split <;> omega
    exact ⟨rfl, rfl, fun h => by omega, a4, a5, a6, a7, by omega⟩
  · have e1 : rn1 D (y + 1) d = upT D 39 d (10000 * D 31 (8 * d)) := by
      unfold rn1
      rw [if_pos (by omega)]
    have e2 : runToS β T (y + 1) 12 d = runToS β T y 12 d := by
      rw [r1, r0, runOnS_0 (by omega), runOnS_0 (by omega)]
    obtain ⟨q1, q2⟩ := a3 (by omega)
    rw [e1, upT_self, upT_k (by omega), upT_k (by omega), upT_k (by omega), e2, if_pos (by omega)]
    exact ⟨by omega, a2, fun h => by omega, a4, a5, a6, a7, a8⟩
  · have e1 : rn1 D (y + 1) d = D := by
      unfold rn1
      rw [if_neg (by omega), if_neg (by omega)]
    have e2 : runToS β T (y + 1) 12 d = runToS β T y 12 d := by
      rw [r1, r0, runOnS_0 (by omega), runOnS_0 (by omega)]
    rw [e1, e2, if_neg (by omega)]
    rw [if_neg (by omega)] at a1
    exact ⟨a1, a2, fun h => a3 (by omega), a4, a5, a6, a7, a8⟩
