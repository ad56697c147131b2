theorem sims : Sims := by sorry
