theorem lfG_up {S S' : PS} {g : Nat → Int} {fr k : Nat} {δ : Int} (h1 : S' 11 (g (fr + k)).toNat + S' 12 (g (fr + k)).toNat = S 11 (g (fr + k)).toNat + S 12 (g (fr + k)).toNat - δ) (h2 : ∀ x, x ≠ (g (fr + k)).toNat → S' 11 x = S 11 x ∧ S' 12 x = S 12 x) {n : Nat} (hd : ∀ i, i < n → i ≠ k → (g (fr + i)).toNat ≠ (g (fr + k)).toNat) : ∀ j, j ≤ n → lfG S' g fr j = lfG S g fr j - (if k < j then δ else 0)
  | 0, _ => by rw [if_neg (by omega)]; rfl
  | j + 1, hj => by
    unfold lfG
    rw [lfG_up h1 h2 hd j (by omega)]
    by_cases e : j = k
    · subst e
      rw [h1, if_neg (by omega), if_pos (by omega)]
      omega
    · obtain ⟨a1, a2⟩ := h2 _ (hd j (by omega) e)
      rw [a1, a2]
      by_cases c : k < j
      · rw [if_pos c, if_pos (by omega)]; omega
      · rw [if_neg c, if_neg (by omega)]; omega
theorem allL_lfG {S : PS} {fr : Nat} : ∀ n, allL S fr n = lfG S (S 17) fr n
  | 0 => rfl
  | n + 1 => by unfold allL lfG; rw [allL_lfG n]
theorem allL_0 {S : PS} {fr n : Nat} (h : ∀ k, k < n → 0 ≤ S 11 (S 17 (fr + k)).toNat ∧ 0 ≤ S 12 (S 17 (fr + k)).toNat) : ∀ j, j ≤ n → 0 ≤ allL S fr j ∧ allL S fr j ≤ allL S fr n := by
  have up : ∀ i, i < n → allL S fr i ≤ allL S fr (i + 1) := fun i hi => by
    have := h i hi
    show allL S fr i ≤ allL S fr i + (S 11 (S 17 (fr + i)).toNat + S 12 (S 17 (fr + i)).toNat)
    omega
  have lo : ∀ j, j ≤ n → 0 ≤ allL S fr j := by
    intro j
    induction j with
    | zero => intro _; exact Int.le_refl 0
    | succ j ih => intro hj; have := up j (by omega); have := ih (by omega); omega
  have hi : ∀ c j, j + c = n → allL S fr j ≤ allL S fr n := by
    intro c
    induction c with
    | zero => intro j hj; have : j = n := by omega
              subst this; exact Int.le_refl _
    | succ c ih => intro j hj; have := up j (by omega); have := ih (j + 1) (by omega); omega
  exact fun j hj => ⟨lo j hj, hi (n - j) j (by omega)⟩
/-- the first turn takes from the group what it takes from the sum -/
theorem sh1_sum {L T : PS} {fr n : Nat} {a all : Int} (hd : ∀ i j, i < n → j < n → i ≠ j → (T 17 (fr + i)).toNat ≠ (T 17 (fr + j)).toNat) (h0 : ∀ k, k < n → 0 ≤ T 11 (T 17 (fr + k)).toNat ∧ 0 ≤ T 12 (T 17 (fr + k)).toNat) (ha : 0 ≤ a) (hall : 0 < all) : ∀ k, k ≤ n → lfG (sh1 L T fr a all k).1 (T 17) fr n = lfG T (T 17) fr n - (a - (sh1 L T fr a all k).2) ∧ ∀ x : Nat, (∀ i, i < k → (T 17 (fr + i)).toNat ≠ x) → ∀ q, (sh1 L T fr a all k).1 q x = T q x
  | 0, _ => ⟨by show lfG T (T 17) fr n = lfG T (T 17) fr n - (a - a); omega, fun _ _ _ => rfl⟩
  | k + 1, hk => by
    obtain ⟨i1, i2⟩ := sh1_sum (L := L) hd h0 ha hall k (by omega)
    have hx : ∀ q, (sh1 L T fr a all k).1 q (T 17 (fr + k)).toNat = T q (T 17 (fr + k)).toNat := i2 _ (fun i hi => hd i k (by omega) (by omega) (by omega))
    have z := h0 k (by omega)
    have hm : 0 ≤ a * ((sh1 L T fr a all k).1 11 (T 17 (fr + k)).toNat + (sh1 L T fr a all k).1 12 (T 17 (fr + k)).toNat) / all := by
      rw [hx, hx]
      exact Int.ediv_nonneg (Int.mul_nonneg ha (by omega)) (by omega)
    obtain ⟨g1, -⟩ := give_lf (L := L) (T := (sh1 L T fr a all k).1) (d := (T 17 (fr + k)).toNat) hm (by rw [hx]; exact z.1) (by rw [hx]; exact z.2)
    have u := lfG_up (g := T 17) (k := k) (fr := fr) g1 (fun x hx2 => ⟨give_x hx2, give_x hx2⟩) (fun i hi hik => hd i k hi (by omega) hik) n (Nat.le_refl n)
    rw [if_pos (by omega), i1] at u
    refine ⟨?_, fun x hx2 q => ?_⟩
    · refine Eq.trans u ?_
      show _ = lfG T (T 17) fr n - (a - ((sh1 L T fr a all k).2 - giveR (sh1 L T fr a all k).1 (T 17 (fr + k)).toNat _))
      omega
    · exact (give_x (Ne.symm (hx2 k (by omega)))).trans (i2 x (fun i hi => hx2 i (by omega)) q)
theorem ppL_at {S : PS} {fr : Nat} {mu al : Int} : ∀ n, (∀ k, k ≠ 48 → ppL S fr mu al n k = S k) ∧ ∀ k, k < n → ppL S fr mu al n 48 (fr + k) = ppV S mu al (fr + k)
  | 0 => ⟨fun _ _ => rfl, fun k h => by omega⟩
  | n + 1 => by
    obtain ⟨h1, h2⟩ := ppL_at (S := S) (fr := fr) (mu := mu) (al := al) n
    refine ⟨fun k hk => (upT_kk hk).trans (h1 k hk), fun k hk => ?_⟩
    show upT (ppL S fr mu al n) 48 (fr + n) (ppV S mu al (fr + n)) 48 (fr + k) = _
    by_cases e : k = n
    · subst e; exact upT_self
    · rw [upT_x (by omega)]; exact h2 k (by omega)
