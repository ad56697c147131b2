/-- which of two rows of words stands first -/
def LX (n : Nat) (a b : Nat → Int) : Prop := ∃ k, k < n ∧ (∀ j, j < k → a j = b j) ∧ a k < b k
theorem taB_iff {a b : Nat → Int} : ∀ f i, taB a b f i = true ↔ ∃ k, i ≤ k ∧ k < i + f ∧ (∀ j, i ≤ j → j < k → a j = b j) ∧ a k < b k
  | 0, i => by
    constructor
    · intro h
      exact absurd h (by unfold taB; simp)
    · rintro ⟨k, h1, h2, _⟩
      omega
  | f + 1, i => by
    unfold taB
    by_cases c : a i = b i
    · rw [if_pos c, taB_iff f (i + 1)]
      constructor
      · rintro ⟨k, h1, h2, h3, h4⟩
        refine ⟨k, by omega, by omega, fun j j1 j2 => ?_, h4⟩
        by_cases e : j = i
        · subst e; exact c
        · exact h3 j (by omega) j2
      · rintro ⟨k, h1, h2, h3, h4⟩
        have : k ≠ i := fun e => by rw [e, c] at h4; omega
        exact ⟨k, by omega, by omega, fun j j1 j2 => h3 j (by omega) j2, h4⟩
    · rw [if_neg c, decide_eq_true_iff]
      constructor
      · intro h
        exact ⟨i, Nat.le_refl i, by omega, fun j j1 j2 => by omega, h⟩
      · rintro ⟨k, h1, h2, h3, h4⟩
        by_cases e : k = i
        · rw [e] at h4; exact h4
        · exact absurd (h3 i (Nat.le_refl i) (by omega)) c
theorem taB_LX {a b : Nat → Int} {n : Nat} : taB a b n 0 = true ↔ LX n a b := by
  rw [taB_iff]
  constructor
  · rintro ⟨k, h1, h2, h3, h4⟩
    exact ⟨k, by omega, fun j hj => h3 j (Nat.zero_le _) hj, h4⟩
  · rintro ⟨k, h2, h3, h4⟩
    exact ⟨k, Nat.zero_le _, by omega, fun j _ hj => h3 j hj, h4⟩
theorem LX.tr {n : Nat} {a b c : Nat → Int} (h : LX n a b) (g : LX n b c) : LX n a c := by
  obtain ⟨k1, h1, h2, h3⟩ := h
  obtain ⟨k2, g1, g2, g3⟩ := g
  by_cases c1 : k1 < k2
  · exact ⟨k1, h1, fun j hj => (h2 j hj).trans (g2 j (by omega)), by rw [← g2 k1 c1]; exact h3⟩
  · by_cases c2 : k1 = k2
    · subst c2
      exact ⟨k1, h1, fun j hj => (h2 j hj).trans (g2 j hj), by omega⟩
    · exact ⟨k2, g1, fun j hj => (h2 j (by omega)).trans (g2 j hj), by rw [h2 k2 (by omega)]; exact g3⟩
theorem LX.le {n : Nat} {a b c : Nat → Int} (h : ∀ i, i < n → a i ≤ b i) (g : LX n b c) : LX n a c := by
  obtain ⟨k, g1, g2, g3⟩ := g
  have key : ∀ m, m ≤ k → LX n a c ∨ ∀ j, j < m → a j = b j := by
    intro m
    induction m with
    | zero => intro _; exact Or.inr (fun j hj => by omega)
    | succ m ih =>
      intro hm
      rcases ih (by omega) with i | i
      · exact Or.inl i
      · by_cases e : a m = b m
        · refine Or.inr (fun j hj => ?_)
          by_cases e2 : j = m
          · subst e2; exact e
          · exact i j (by omega)
        · have := h m (by omega)
          exact Or.inl ⟨m, by omega, fun j hj => (i j hj).trans (g2 j (by omega)), by rw [← g2 m (by omega)]; omega⟩
  rcases key k (Nat.le_refl k) with i | i
  · exact i
  · have := h k g1
    exact ⟨k, g1, fun j hj => (i j hj).trans (g2 j hj), by omega⟩
theorem LX.cg {n : Nat} {a a' b b' : Nat → Int} (ha : ∀ i, i < n → a' i = a i) (hb : ∀ i, i < n → b' i = b i) (h : LX n a b) : LX n a' b' := by
  obtain ⟨k, h1, h2, h3⟩ := h
  exact ⟨k, h1, fun j hj => by rw [ha j (by omega), hb j (by omega)]; exact h2 j hj, by rw [ha k h1, hb k h1]; exact h3⟩
/-- the best of the words weighed so far -/
def BSF (o : (Nat → Int) → Int) (n : Nat) (m : Mem) (V : (Nat → Int) → Prop) : Prop := (m 20 0 0 2 = 0 ∧ ∀ W, ¬ V W) ∨ (m 20 0 0 2 ≠ 0 ∧ V (m 21 0 0) ∧ m 20 0 0 1 = o (m 21 0 0) ∧ ∀ W, V W → m 20 0 0 1 < o W ∨ (m 20 0 0 1 = o W ∧ ¬ LX n W (m 21 0 0)))
theorem BSF.c {o : (Nat → Int) → Int} {n : Nat} {m m' : Mem} {V : (Nat → Int) → Prop} (h : BSF o n m V) (h20 : m' 20 0 0 = m 20 0 0) (h21 : m' 21 0 0 = m 21 0 0) : BSF o n m' V := by
  unfold BSF
  rw [h20, h21]
  exact h
theorem BSF.iff {o : (Nat → Int) → Int} {n : Nat} {m : Mem} {V V' : (Nat → Int) → Prop} (h : BSF o n m V) (g : ∀ W, V' W ↔ V W) : BSF o n m V' := by
  have : V' = V := funext fun W => propext (g W)
  rw [this]
  exact h
theorem we_bsf {o : (Nat → Int) → Int} {n : Nat} {m : Mem} {V : (Nat → Int) → Prop} {ow : Int} (hn : m 20 0 0 5 = n) (hn3 : n ≤ 3) (ho : ∀ W W', (∀ i, i < n → W i = W' i) → o W = o W') (how : ow = o (m 22 0 0)) (h : BSF o n m V) : BSF o n (weM m ow) (fun W => V W ∨ ∀ i, i < n → W i = m 22 0 0 i) := by
  have hta : taM m ↔ LX n (m 22 0 0) (m 21 0 0) := by
    unfold taM
    rw [hn, Int.toNat_natCast]
    exact taB_LX
  unfold weM
  by_cases c : m 20 0 0 2 = 0 ∨ ow < m 20 0 0 1 ∨ (ow = m 20 0 0 1 ∧ taM m)
  · rw [if_pos c]
    have e2 : cpS (up (up m 20 0 0 2 1) 20 0 0 1 ow) 21 0 0 22 0 0 3 20 0 0 2 = 1 := by
      rw [cpS_o (by omega)]
      simp [up]
    have e1 : cpS (up (up m 20 0 0 2 1) 20 0 0 1 ow) 21 0 0 22 0 0 3 20 0 0 1 = ow := by
      rw [cpS_o (by omega), up_self]
    have e21 : ∀ i, i < 3 → cpS (up (up m 20 0 0 2 1) 20 0 0 1 ow) 21 0 0 22 0 0 3 21 0 0 i = m 22 0 0 i := fun i hi => by
      simp [cpS, updS, hi, up]
    right
    obtain ⟨M, hM⟩ : ∃ M, M = cpS (up (up m 20 0 0 2 1) 20 0 0 1 ow) 21 0 0 22 0 0 3 := ⟨_, rfl⟩
    rw [← hM] at e2 e1 e21 ⊢
    have eo : o (M 21 0 0) = ow := by
      rw [how]
      exact ho _ _ (fun i hi => e21 i (by omega))
    refine ⟨by omega, Or.inr (fun i hi => e21 i (by omega)), by omega, fun W hW => ?_⟩
    rw [e1]
    rcases hW with hW | hW
    · rcases h with ⟨h1, h2⟩ | ⟨h1, h2, h3, h4⟩
      · exact absurd hW (h2 W)
      · rcases h4 W hW with h5 | ⟨h5, h6⟩
        · left
          omega
        · rcases c with c | c | ⟨c1, c2⟩
          · exact absurd c h1
          · left; omega
          · right
            refine ⟨by omega, fun hl => h6 ?_⟩
            have hl2 : LX n W (m 22 0 0) := hl.cg (fun _ _ => rfl) (fun i hi => (e21 i (by omega)).symm)
            exact hl2.tr (hta.mp c2)
    · right
      refine ⟨by rw [how]; exact (ho _ _ hW).symm, fun hl => ?_⟩
      obtain ⟨k, k1, k2, k3⟩ := hl
      rw [hW k k1, e21 k (by omega)] at k3
      omega
  · rw [if_neg c]
    rcases h with ⟨h1, h2⟩ | ⟨h1, h2, h3, h4⟩
    · exact absurd (Or.inl h1) c
    · right
      refine ⟨h1, Or.inl h2, h3, fun W hW => ?_⟩
      rcases hW with hW | hW
      · exact h4 W hW
      · have e : o W = ow := by rw [how]; exact ho _ _ hW
        by_cases e2 : ow = m 20 0 0 1
        · right
          refine ⟨by omega, fun hl => ?_⟩
          exact c (Or.inr (Or.inr ⟨e2, hta.mpr (hl.cg (fun i hi => (hW i hi).symm) (fun _ _ => rfl))⟩))
        · left
          have : ¬ ow < m 20 0 0 1 := fun h => c (Or.inr (Or.inl h))
          omega
theorem next_neg {β T : PS} {t : Int} (h : nextS β T t < 0) {q : Nat} (hq : (q : Int) < β 13 0) (hr : RemP β T q) : t < β 8 q := by
  unfold nextS at h
  rcases nextL_spec (β := β) (T := T) (t := t) (β 13 0).toNat with ⟨a1, a2, a3⟩ | ⟨r, b0, b1, b2, b3, b4, b5⟩
  · exact a3 q (by omega) hr
  · omega
theorem next_rem {β T : PS} {t : Int} {q : Nat} (h : nextS β T t = q) : (q : Int) < β 13 0 ∧ RemP β T q ∧ β 8 q ≤ t := by
  unfold nextS at h
  rcases nextL_spec (β := β) (T := T) (t := t) (β 13 0).toNat with ⟨a1, a2, a3⟩ | ⟨r, b0, b1, b2, b3, b4, b5⟩
  · omega
  · obtain rfl : r = q := by omega
    exact ⟨by omega, b3, b4⟩
