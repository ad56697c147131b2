theorem sh1_x {L T : PS} {fr : Nat} {a all : Int} {x : Nat} {q : Nat} : ∀ k, (∀ i, i < k → (T 17 (fr + i)).toNat ≠ x) → (sh1 L T fr a all k).1 q x = T q x
  | 0, _ => rfl
  | k + 1, h => (give_x (Ne.symm (h k (by omega)))).trans (sh1_x k (fun i hi => h i (by omega)))
theorem sh1_17 {L T : PS} {fr : Nat} {a all : Int} : ∀ k, (sh1 L T fr a all k).1 17 = T 17 ∧ (sh1 L T fr a all k).1 10 = T 10 ∧ (sh1 L T fr a all k).1 16 = T 16
  | 0 => ⟨rfl, rfl, rfl⟩
  | k + 1 => by
    obtain ⟨h1, h2, h3⟩ := sh1_17 (L := L) (T := T) (fr := fr) (a := a) (all := all) k
    exact ⟨(give_k (by omega)).trans h1, (give_k (by omega)).trans h2, (give_k (by omega)).trans h3⟩
theorem sh2_x {L T : PS} {fr : Nat} {a : Int} {x : Nat} {q : Nat} : ∀ k, (∀ i, i < k → (T 17 (fr + i)).toNat ≠ x) → (sh2 L T fr a k).1 q x = T q x
  | 0, _ => rfl
  | k + 1, h => (give_x (Ne.symm (h k (by omega)))).trans (sh2_x k (fun i hi => h i (by omega)))
theorem sh2_10 {L T : PS} {fr : Nat} {a : Int} : ∀ k, (sh2 L T fr a k).1 10 = T 10
  | 0 => rfl
  | k + 1 => (give_k (by omega)).trans (sh2_10 k)
/-- a share touches its group alone -/
theorem share_x {L T : PS} {fr en' : Nat} {o : Int} {x q : Nat} (h : ∀ i, i < en' - fr → (T 17 (fr + i)).toNat ≠ x) : (shareS L T fr en' o).1 q x = T q x := by
  unfold shareS
  by_cases c : 0 < allL T fr (en' - fr) ∧ o < allL T fr (en' - fr)
  · simp only [if_pos c]
    exact (sh2_x _ (fun i hi => by rw [sh1_17 _ |>.1]; exact h i hi)).trans (sh1_x _ h)
  · simp only [if_neg c]
    exact sh2_x _ h
theorem share_17 {L T : PS} {fr en' : Nat} {o : Int} : (shareS L T fr en' o).1 17 = T 17 ∧ (shareS L T fr en' o).1 10 = T 10 := by
  unfold shareS
  by_cases c : 0 < allL T fr (en' - fr) ∧ o < allL T fr (en' - fr)
  · simp only [if_pos c]
    exact ⟨(sh2_17 _).trans (sh1_17 _).1, (sh2_10 _).trans (sh1_17 _).2.1⟩
  · simp only [if_neg c]
    exact ⟨sh2_17 _, sh2_10 _⟩
/-- a share of one debt is a gift -/
theorem share_one {L T : PS} {fr : Nat} {o : Int} (h0 : 0 ≤ o) (h1 : 0 ≤ T 11 (T 17 fr).toNat) (h2 : 0 ≤ T 12 (T 17 fr).toNat) : shareS L T fr (fr + 1) o = (giveS L T (T 17 fr).toNat o, o - giveR T (T 17 fr).toNat o) := by
  unfold shareS
  rw [show fr + 1 - fr = 1 by omega]
  have al : allL T fr 1 = T 11 (T 17 fr).toNat + T 12 (T 17 fr).toNat := by
    show 0 + (T 11 (T 17 (fr + 0)).toNat + T 12 (T 17 (fr + 0)).toNat) = _
    rw [show fr + 0 = fr by omega]; omega
  obtain ⟨-, g⟩ := give_lf (L := L) (T := T) (d := (T 17 fr).toNat) h0 h1 h2
  rw [al]
  by_cases c : 0 < T 11 (T 17 fr).toNat + T 12 (T 17 fr).toNat ∧ o < T 11 (T 17 fr).toNat + T 12 (T 17 fr).toNat
  · simp only [if_pos c]
    have e : sh1 L T fr o (T 11 (T 17 fr).toNat + T 12 (T 17 fr).toNat) 1 = (giveS L T (T 17 fr).toNat o, 0) := by
      show (giveS L T (T 17 (fr + 0)).toNat (o * (T 11 (T 17 (fr + 0)).toNat + T 12 (T 17 (fr + 0)).toNat) / (T 11 (T 17 fr).toNat + T 12 (T 17 fr).toNat)), o - giveR T (T 17 (fr + 0)).toNat (o * (T 11 (T 17 (fr + 0)).toNat + T 12 (T 17 (fr + 0)).toNat) / (T 11 (T 17 fr).toNat + T 12 (T 17 fr).toNat))) = _
      rw [show fr + 0 = fr by omega, Int.mul_ediv_cancel _ (by omega), g]
      congr 1
      omega
    rw [e]
    show (giveS L (giveS L T (T 17 fr).toNat o) _ 0, 0 - giveR (giveS L T (T 17 fr).toNat o) _ 0) = _
    rw [(give_0 (L := L) (Int.le_refl 0)).1, (give_0 (L := L) (Int.le_refl 0)).2, g]
    congr 1
    omega
  · simp only [if_neg c]
    rfl
