theorem dsL_10 {β L : PS} {n : Nat} : ∀ (F fr : Nat) (T : PS) (o : Int), (dsL β L n F fr T o).1 10 = T 10
  | 0, _, _, _ => rfl
  | F + 1, fr, T, o => by
    unfold dsL
    split
    · rw [dsL_10 F]; exact share_17.2
    · rfl
theorem dist3_10 {β L T : PS} {a c : Int} : (dist3 β L T a c).1 10 = T 10 := by
  have h1 : (dist1 β L T a c).1 10 = T 10 := by
    unfold dist1
    split
    · exact dist0_k (by omega)
    · exact (give_k (by omega)).trans (dist0_k (by omega))
  unfold dist3 dist2
  rw [dsL_10]
  split
  · show setT (dist1 β L T a c).1 17 (ordS β L (dist1 β L T a c).1).2 10 = T 10
    rw [setT_d (by omega)]
    exact h1
  · exact h1
theorem runToS_le {β T : PS} {y : Int} (h : T 10 2 ≤ y) : runToS β T y 10 2 = y := by
  by_cases c : T 10 2 < y
  · exact (runToS_day c).1
  · rw [runToS_id (by omega)]; omega
/-- class and model between two payments: the model stands at day y before payment p -/
def MR (β T D : PS) (y : Int) (p : Nat) : Prop := T 10 2 ≤ y ∧ DR β (runToS β T y) D y ∧ ZR β D ∧ ∀ q : Nat, (q : Int) < β 13 0 → (RemP β T q ↔ y < β 8 q ∨ (β 8 q = y ∧ p ≤ q))
