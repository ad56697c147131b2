/-- a payment is still to come -/
def RemP (β T : PS) (q : Nat) : Prop := T 10 2 < β 8 q ∨ (β 8 q = T 10 2 ∧ T 10 3 < q)
theorem nextL_spec {β T : PS} {t : Int} : ∀ n, ((nextL β T t n).1 = -1 ∧ (nextL β T t n).2 = t + 1 ∧ ∀ q, q < n → RemP β T q → t < β 8 q) ∨ ∃ r : Nat, r < n ∧ (nextL β T t n).1 = r ∧ (nextL β T t n).2 = β 8 r ∧ RemP β T r ∧ β 8 r ≤ t ∧ ∀ q, q < n → RemP β T q → β 8 r < β 8 q ∨ (β 8 r = β 8 q ∧ r ≤ q)
  | 0 => Or.inl ⟨rfl, rfl, fun q h => by omega⟩
  | n + 1 => by
    unfold nextL
    by_cases c : (T 10 2 < β 8 n ∨ (β 8 n = T 10 2 ∧ T 10 3 < n)) ∧ β 8 n < (nextL β T t n).2
    · rw [if_pos c]
      right
      refine ⟨n, by omega, rfl, rfl, c.1, ?_, fun q hq hr => ?_⟩
      · rcases nextL_spec (β := β) (T := T) (t := t) n with ⟨a1, a2, a3⟩ | ⟨r, b0, b1, b2, b3, b4, b5⟩ <;> omega
      · by_cases e : q = n
        · subst e; exact Or.inr ⟨rfl, Nat.le_refl q⟩
        · rcases nextL_spec (β := β) (T := T) (t := t) n with ⟨a1, a2, a3⟩ | ⟨r, b0, b1, b2, b3, b4, b5⟩
          · have := a3 q (by omega) hr; omega
          · have := b5 q (by omega) hr; omega
    · rw [if_neg c]
      rcases nextL_spec (β := β) (T := T) (t := t) n with ⟨a1, a2, a3⟩ | ⟨r, b0, b1, b2, b3, b4, b5⟩
      · left
        refine ⟨a1, a2, fun q hq hr => ?_⟩
        by_cases e : q = n
        · subst e
          have : ¬ β 8 q < (nextL β T t q).2 := fun h => c ⟨hr, h⟩
          omega
        · exact a3 q (by omega) hr
      · right
        refine ⟨r, by omega, b1, b2, b3, b4, fun q hq hr => ?_⟩
        by_cases e : q = n
        · subst e
          have : ¬ β 8 q < (nextL β T t q).2 := fun h => c ⟨hr, h⟩
          omega
        · exact b5 q (by omega) hr
/-- the next is p, where p is the least still to come -/
theorem next_is {β T : PS} {t : Int} {p : Nat} (hp' : (p : Int) < β 13 0) (h1 : RemP β T p) (h2 : β 8 p ≤ t) (h3 : ∀ q : Nat, (q : Int) < β 13 0 → RemP β T q → β 8 p < β 8 q ∨ (β 8 p = β 8 q ∧ p ≤ q)) : nextS β T t = p := by
  unfold nextS
  rcases nextL_spec (β := β) (T := T) (t := t) (β 13 0).toNat with ⟨a1, a2, a3⟩ | ⟨r, b0, b1, b2, b3, b4, b5⟩
  · have := a3 p (by omega) h1; omega
  · have k1 := b5 p (by omega) h1
    have k2 := h3 r (by omega) b3
    rw [b1]
    omega
theorem next_no {β T : PS} {t : Int} (h : ∀ q : Nat, (q : Int) < β 13 0 → RemP β T q → t < β 8 q) : nextS β T t = -1 := by
  unfold nextS
  rcases nextL_spec (β := β) (T := T) (t := t) (β 13 0).toNat with ⟨a1, a2, a3⟩ | ⟨r, b0, b1, b2, b3, b4, b5⟩
  · exact a1
  · have := h r (by omega) b3; omega
/-- how many are still to come -/
noncomputable def cnP (P : Nat → Prop) : Nat → Nat
  | 0 => 0
  | n + 1 => cnP P n + (bZ (P n)).toNat
theorem cnP_le (P : Nat → Prop) : ∀ n, cnP P n ≤ n
  | 0 => Nat.le_refl 0
  | n + 1 => by
    have := cnP_le P n
    unfold cnP
    rcases bZ_01 (P n) with h | h <;> rw [h] <;> omega
theorem cnP_mo {P Q : Nat → Prop} : ∀ n, (∀ q, q < n → Q q → P q) → cnP Q n ≤ cnP P n
  | 0, _ => Nat.le_refl 0
  | n + 1, h => by
    have ih := cnP_mo n (fun q hq => h q (by omega))
    unfold cnP
    by_cases c : Q n
    · rw [bZ_t c, bZ_t (h n (by omega) c)]; omega
    · rw [bZ_f c]; omega
theorem cnP_lt {P Q : Nat → Prop} {p : Nat} (h1 : P p) (h2 : ¬ Q p) : ∀ n, p < n → (∀ q, q < n → Q q → P q) → cnP Q n + 1 ≤ cnP P n
  | 0, hn, _ => by omega
  | n + 1, hn, h => by
    unfold cnP
    by_cases e : p = n
    · subst e
      have ih := cnP_mo p (fun q hq => h q (by omega))
      rw [bZ_f h2, bZ_t h1]
      omega
    · have ih := cnP_lt h1 h2 n (by omega) (fun q hq => h q (by omega))
      by_cases c : Q n
      · rw [bZ_t c, bZ_t (h n (by omega) c)]; omega
      · rw [bZ_f c]; omega
