/-- the same book, as far as it is kept -/
def BkE (β β' : PS) : Prop := β' 12 0 = β 12 0 ∧ β' 13 0 = β 13 0 ∧ (∀ d : Nat, (d : Int) < β 12 0 → ∀ f, f < 8 → β' f d = β f d) ∧ ∀ p : Nat, (p : Int) < β 13 0 → ∀ f, 8 ≤ f → f < 12 → β' f p = β f p
theorem BkE.rf {β : PS} : BkE β β := ⟨rfl, rfl, fun _ _ _ _ => rfl, fun _ _ _ _ _ => rfl⟩
theorem BkR.e {β β' γ γ' : PS} (h : BkR β γ) (h1 : BkE β β') (h2 : BkE γ γ') : BkR β' γ' := by
  obtain ⟨a1, a2, a3, a4, a5, a6⟩ := h
  obtain ⟨b1, b2, b3, b4⟩ := h1
  obtain ⟨c1, c2, c3, c4⟩ := h2
  refine ⟨by rw [b1, c1, a1], by rw [b2, c2, a2], fun d hd f hf => ?_, fun p hq f f8 f12 => ?_, fun d hd => ?_, fun p hq => ?_⟩
  · rw [b1] at hd
    rw [b3 d hd f hf, c3 d (by omega) f hf, a3 d hd f hf]
  · rw [b2] at hq
    rw [b4 p hq f f8 f12, c4 p (by omega) f f8 f12, a4 p hq f f8 f12]
  · rw [b1] at hd
    rw [b3 d hd 0 (by omega)]; exact a5 d hd
  · rw [b2] at hq
    rw [b4 p hq 9 (by omega) (by omega)]; exact a6 p hq
/-- the same law, as far as it is kept -/
def LwE (L L' : PS) : Prop := L' 0 0 = L 0 0 ∧ L' 1 0 = L 1 0 ∧ ∀ k, k < 10 → L' 2 k = L 2 k
theorem LwR.e {L L' : PS} {n n' : Int} {lt lt' : Nat → Int} (h : LwR L n lt) (h1 : LwE L L') (hn : n' = n) (h10 : n ≤ 10) (hl : ∀ k, k < 12 → lt' k = lt k) : LwR L' n' lt' := by
  subst hn
  obtain ⟨a1, a2, a3⟩ := h
  refine ⟨by rw [h1.1, a1], fun k hk => ?_, fun c c1 c2 => ?_⟩
  · rw [h1.2.2 k (by omega), hl k (by omega)]; exact a2 k hk
  · unfold hasB
    rw [h1.2.1, hmL_cg n'.toNat (g := lt) (fun k hk => hl k (by omega))]
    exact a3 c c1 c2
theorem cpDebt_at {m : Mem} {b b0 d : Nat} (hne : b ≠ b0) : (cpDebt m b b0 d 5 b d 0 = m 5 b0 d 0 ∧ cpDebt m b b0 d 5 b d 1 = m 5 b0 d 1) ∧ ∀ x, x < 6 → cpDebt m b b0 d 6 b d x = m 6 b0 d x := by
  unfold cpDebt
  refine ⟨⟨?_, ?_⟩, fun x hx => ?_⟩
  · simp [cpS, updS, up]
  · simp [cpS, updS, up, Ne.symm hne]
  · simp [cpS, updS, up, hx]
theorem cpDebt_i {m : Mem} {b b0 d k j d' : Nat} (h : d' ≠ d) : cpDebt m b b0 d k j d' = m k j d' := by
  unfold cpDebt cpS updS
  rw [if_neg (by omega), up_i (by omega), up_i (by omega)]
theorem cpDs_at {m : Mem} {b b0 : Nat} (hne : b ≠ b0) : ∀ n d, d < n → (cpDs m b b0 n 5 b d 0 = m 5 b0 d 0 ∧ cpDs m b b0 n 5 b d 1 = m 5 b0 d 1) ∧ ∀ x, x < 6 → cpDs m b b0 n 6 b d x = m 6 b0 d x
  | 0, d, h => by omega
  | n + 1, d, h => by
    unfold cpDs
    by_cases e : d = n
    · subst e
      have h1 := cpDebt_at (m := cpDs m b b0 d) (d := d) hne
      rw [cpDs_o (Or.inr (Ne.symm hne)), cpDs_o (Or.inr (Ne.symm hne))] at h1
      exact h1
    · rw [cpDebt_i e, cpDebt_i e]
      exact cpDs_at hne n d (by omega)
theorem cpPs_at {m : Mem} {b b0 : Nat} (hne : b ≠ b0) : ∀ n p, p < n → ∀ x, x < 4 → cpPs m b b0 n 7 b p x = m 7 b0 p x
  | 0, p, h => by omega
  | n + 1, p, h => by
    intro x hx
    unfold cpPs cpPay
    by_cases e : p = n
    · subst e
      have q : cpPs m b b0 p 7 b0 p = m 7 b0 p := cpPs_o (Or.inr (Ne.symm hne)) p
      rcases (show x = 0 ∨ x = 1 ∨ x = 2 ∨ x = 3 by omega) with rfl | rfl | rfl | rfl <;> simp [up, q]
    · rw [up_i (by omega), up_i (by omega), up_i (by omega), up_i (by omega)]
      exact cpPs_at hne n p (by omega) x hx
theorem cpBk_bk {m : Mem} {b b0 : Nat} (hne : b ≠ b0) : BkE (bk m b0) (bk (cpBk m b b0) b) := by
  have k1 : ∀ k, k ≠ 8 → k ≠ 9 → cpBk m b b0 k b = cpB2 m b b0 k b := fun k h8 h9 => by
    funext i
    unfold cpBk
    rw [cpLaw_o (Or.inl ⟨h8, h9⟩), cpLaw_o (Or.inl ⟨h8, h9⟩)]
  have k2 : ∀ k, k ≠ 7 → k ≠ 1 → cpB2 m b b0 k b = cpB1 m b b0 k b := fun k h7 h1 => by
    funext i
    unfold cpB2
    rw [cpPs_o (Or.inl h7), up_o (Or.inl h1)]
  have e13 : cpB1 m b b0 1 b0 0 3 = m 1 b0 0 3 := by rw [cpB1_o (Or.inr (Ne.symm hne))]
  have c12 : cpBk m b b0 1 b 0 1 = m 1 b0 0 1 := by
    rw [k1 1 (by omega) (by omega)]
    unfold cpB2
    rw [cpPs_k (by omega)]
    have : up (cpB1 m b b0) 1 b 0 3 (cpB1 m b b0 1 b0 0 3) 1 b 0 1 = cpB1 m b b0 1 b 0 1 := by unfold up; rw [if_neg (by omega)]
    rw [this]
    unfold cpB1
    rw [cpDs_k (by omega), up_self]
  have c13 : cpBk m b b0 1 b 0 3 = m 1 b0 0 3 := by
    rw [k1 1 (by omega) (by omega)]
    unfold cpB2
    rw [cpPs_k (by omega), up_self, e13]
  refine ⟨c12, c13, fun d hd => ?_, fun p hq => ?_⟩
  · have hd2 : (d : Int) < m 1 b0 0 1 := hd
    have h := cpDs_at (m := up m 1 b 0 1 (m 1 b0 0 1)) hne (m 1 b0 0 1).toNat d (by omega)
    rw [upK (by omega), upK (by omega)] at h
    have h5 : cpBk m b b0 5 b = cpDs (up m 1 b 0 1 (m 1 b0 0 1)) b b0 (m 1 b0 0 1).toNat 5 b := by
      rw [k1 5 (by omega) (by omega), k2 5 (by omega) (by omega)]; rfl
    have h6 : cpBk m b b0 6 b = cpDs (up m 1 b 0 1 (m 1 b0 0 1)) b b0 (m 1 b0 0 1).toNat 6 b := by
      rw [k1 6 (by omega) (by omega), k2 6 (by omega) (by omega)]; rfl
    rw [← h5, ← h6] at h
    exact lt8 h.1.1 h.1.2 (h.2 5 (by omega)) (h.2 4 (by omega)) (h.2 0 (by omega)) (h.2 1 (by omega)) (h.2 2 (by omega)) (h.2 3 (by omega))
  · have hq2 : (p : Int) < m 1 b0 0 3 := hq
    have h := cpPs_at (m := up (cpB1 m b b0) 1 b 0 3 (cpB1 m b b0 1 b0 0 3)) hne (cpB1 m b b0 1 b0 0 3).toNat p (by omega)
    have q7 : up (cpB1 m b b0) 1 b 0 3 (cpB1 m b b0 1 b0 0 3) 7 b0 p = m 7 b0 p := by rw [upK (by omega), cpB1_o (Or.inr (Ne.symm hne))]
    rw [q7] at h
    have h7 : cpBk m b b0 7 b = cpPs (up (cpB1 m b b0) 1 b 0 3 (cpB1 m b b0 1 b0 0 3)) b b0 (cpB1 m b b0 1 b0 0 3).toNat 7 b := by
      rw [k1 7 (by omega) (by omega)]; rfl
    rw [← h7] at h
    exact lt812 (h 0 (by omega)) (h 1 (by omega)) (h 2 (by omega)) (h 3 (by omega))
theorem cpLaw_lw {m : Mem} {q q0 : Nat} (hne : q ≠ q0) : LwE (lw m q0) (lw (cpLaw m q q0) q) := by
  refine ⟨?_, ?_, fun k hk => ?_⟩
  · show cpLaw m q q0 8 q 0 1 = m 8 q0 0 1
    unfold cpLaw
    simp [up, cpS, updS]
  · show cpLaw m q q0 8 q 0 2 = m 8 q0 0 2
    unfold cpLaw
    simp [up, cpS, updS]
  · show cpLaw m q q0 9 q 0 k = m 9 q0 0 k
    unfold cpLaw
    simp [up, cpS, updS, hk]
theorem LwE.tr {a b c : PS} (h : LwE a b) (g : LwE b c) : LwE a c := ⟨g.1.trans h.1, g.2.1.trans h.2.1, fun k hk => (g.2.2 k hk).trans (h.2.2 k hk)⟩
theorem LwE.rf {a : PS} : LwE a a := ⟨rfl, rfl, fun _ _ => rfl⟩
theorem LwE.eq {a b : PS} (h : b = a) : LwE a b := h ▸ LwE.rf
theorem cpBk_lw {m : Mem} {b b0 l : Nat} (hne : b ≠ b0) (hl : l < 2) : LwE (lw m (2 * b0 + l)) (lw (cpBk m b b0) (2 * b + l)) := by
  have e2 : ∀ q, lw (cpB2 m b b0) q = lw m q := fun q => lw_congr (funext fun i => cpB2_o (Or.inl (by omega))) (funext fun i => cpB2_o (Or.inl (by omega)))
  unfold cpBk
  rcases (show l = 0 ∨ l = 1 by omega) with rfl | rfl
  · have e : lw (cpLaw (cpLaw (cpB2 m b b0) (2 * b + 0) (2 * b0 + 0)) (2 * b + 1) (2 * b0 + 1)) (2 * b + 0) = lw (cpLaw (cpB2 m b b0) (2 * b + 0) (2 * b0 + 0)) (2 * b + 0) := lw_congr (funext fun i => cpLaw_o (by omega)) (funext fun i => cpLaw_o (by omega))
    rw [e, ← e2]
    exact cpLaw_lw (by omega)
  · have e : lw (cpLaw (cpB2 m b b0) (2 * b + 0) (2 * b0 + 0)) (2 * b0 + 1) = lw m (2 * b0 + 1) := by
      rw [← e2]
      exact lw_congr (funext fun i => cpLaw_o (by omega)) (funext fun i => cpLaw_o (by omega))
    rw [← e]
    exact cpLaw_lw (by omega)
theorem cy0_at {k q : Nat} {S : PS} (hk : k ≠ 55) : ∀ n, (∀ k', k' ≠ 55 → cy0 k q S n k' = S k') ∧ ∀ x, cy0 k q S n 55 x = if q ≤ x ∧ x < q + n then S k (x - q) else S 55 x
  | 0 => ⟨fun _ _ => rfl, fun x => by rw [if_neg (by omega)]; rfl⟩
  | n + 1 => by
    obtain ⟨h1, h2⟩ := cy0_at (k := k) (q := q) (S := S) hk n
    unfold cy0
    rw [h1 k hk]
    refine ⟨fun k' hk' => ?_, fun x => ?_⟩
    · funext x
      by_cases e : k' = k ∧ x = n
      · obtain ⟨rfl, rfl⟩ := e
        rw [upT_self]
      · have : upT (upT (cy0 k q S n) 55 (q + n) (S k n)) k n (S k n) k' x = upT (cy0 k q S n) 55 (q + n) (S k n) k' x := by
          unfold upT; rw [if_neg e]
        rw [this, upT_k hk', h1 k' hk']
    · rw [upT_k (Ne.symm hk)]
      by_cases e : x = q + n
      · subst e
        rw [upT_self, if_pos (by omega), show q + n - q = n by omega]
      · rw [upT_x e, h2]
        by_cases c : q ≤ x ∧ x < q + n
        · rw [if_pos c, if_pos (by omega)]
        · rw [if_neg c, if_neg (by omega)]
theorem cy1_at {k q : Nat} {S : PS} (hk : k ≠ 55) : ∀ n, (∀ k', k' ≠ k → cy1 k q S n k' = S k') ∧ ∀ x, cy1 k q S n k x = if x < n then S 55 (q + x) else S k x
  | 0 => ⟨fun _ _ => rfl, fun x => by rw [if_neg (by omega)]; rfl⟩
  | n + 1 => by
    obtain ⟨h1, h2⟩ := cy1_at (k := k) (q := q) (S := S) hk n
    unfold cy1
    rw [h1 55 (Ne.symm hk)]
    refine ⟨fun k' hk' => ?_, fun x => ?_⟩
    · rw [upT_kk hk']
      funext x
      by_cases e : k' = 55 ∧ x = q + n
      · obtain ⟨rfl, rfl⟩ := e
        rw [upT_self]
      · have : upT (cy1 k q S n) 55 (q + n) (S 55 (q + n)) k' x = cy1 k q S n k' x := by
          unfold upT; rw [if_neg e]
        rw [this, h1 k' hk']
    · by_cases e : x = n
      · subst e
        rw [upT_self, if_pos (by omega)]
      · rw [upT_x e, upT_k hk, h2]
        by_cases c : x < n
        · rw [if_pos c, if_pos (by omega)]
        · rw [if_neg c, if_neg (by omega)]
