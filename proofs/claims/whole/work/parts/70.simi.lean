theorem image_ok {m : Mem} {S Z : PS} (hI : Inv m) (hA : RlA m S) (hS : InvS kM S) (hz : CyI S Z) : Inv (imageM m) ∧ (∀ k, 29 ≤ k → imageM m k = m k) ∧ (1 : Int) = 1 ∧ InvS kM (upT Z 29 24 1) ∧ RlA (imageM m) (upT Z 29 24 1) := by
  obtain ⟨z0, z1, z2, z3, z4, z5, z6, z7, z8⟩ := hz
  unfold imageM
  have hk : ∀ k j i, (k ≠ 1 ∧ k ≠ 5 ∧ k ≠ 6 ∧ k ≠ 7) ∨ j ≠ 1 → (k ≠ 8 ∧ k ≠ 9) ∨ (j ≠ 2 * 1 ∧ j ≠ 2 * 1 + 1) → cpBk m 1 0 k j i = m k j i := fun k j i h1 h2 => cpBk_o h1 h2
  have e0 : m 1 0 0 1 = S 29 0 := hA.1.1
  have e2 : m 1 0 0 3 = S 29 2 := hA.1.2.1
  have b0 : 0 ≤ m 1 0 0 1 ∧ m 1 0 0 1 ≤ 8 := hI 1 0 0 1
  have b2 : 0 ≤ m 1 0 0 3 ∧ m 1 0 0 3 ≤ 12 := hI 1 0 0 3
  have hZ : InvS kM Z := by
    intro k x hk
    by_cases c : k = 55
    · subst c
      show -1 ≤ Z 55 x ∧ Z 55 x ≤ 9999
      by_cases x1 : x < 64
      · rw [z1 x x1]; exact hS 31 x rfl
      by_cases x2 : x < 112
      · have := z2 (x - 64) (by omega)
        rw [show 64 + (x - 64) = x by omega] at this
        rw [this]; exact hS 33 _ rfl
      by_cases x3 : x < 136
      · have := z3 (x - 112) (by omega)
        rw [show 112 + (x - 112) = x by omega] at this
        rw [this]
        have q : 0 ≤ S 36 (x - 112) ∧ S 36 (x - 112) ≤ 127 := hS 36 _ rfl
        omega
      by_cases x4 : 140 ≤ x
      · rw [z8 x x4]; exact hS 55 x rfl
      have q0 : 0 ≤ S 37 0 ∧ S 37 0 ≤ 12 := hS 37 0 rfl
      have q1 : 0 ≤ S 37 1 ∧ S 37 1 ≤ 12 := hS 37 1 rfl
      rcases (show x = 136 ∨ x = 137 ∨ x = 138 ∨ x = 139 by omega) with rfl | rfl | rfl | rfl <;> omega
    · rw [z0 k c]; exact hS k x hk
  refine ⟨hI.cpBk.up (show 0 ≤ (1 : Int) ∧ (1 : Int) ≤ 1 by omega), fun k h29 => ?_, rfl, hZ.up (show 0 ≤ (1 : Int) ∧ (1 : Int) ≤ 1 by omega), ?_, ?_, ?_, ?_, ?_⟩
  · rw [upK (by omega)]
    funext j i
    exact hk k j i (by omega) (by omega)
  · refine hA.1.c (bk_congr ?_ ?_ ?_ ?_) (bkM_congr ?_ ?_ ?_ ?_)
    · rw [upK (by omega)]; funext i; exact hk _ _ i (by omega) (by omega)
    · rw [upK (by omega)]; funext i; exact hk _ _ i (by omega) (by omega)
    · rw [upK (by omega)]; funext i; exact hk _ _ i (by omega) (by omega)
    · rw [upK (by omega)]; funext i; exact hk _ _ i (by omega) (by omega)
    · rw [upT_kk (by omega), z0 _ (by omega)]
    · rw [upT_kk (by omega), z0 _ (by omega)]
    · rw [upT_x (by omega), z0 _ (by omega)]
    · rw [upT_x (by omega), z0 _ (by omega)]
  · refine hA.2.1.c (fun l hl => lw_congr ?_ ?_) ?_ ?_
    · rw [upK (by omega)]; funext i; exact hk _ _ i (by omega) (by omega)
    · rw [upK (by omega)]; funext i; exact hk _ _ i (by omega) (by omega)
    · rw [upT_kk (by omega), z0 _ (by omega)]
    · rw [upT_kk (by omega), z0 _ (by omega)]
  · refine hA.2.2.1.c ?_ ?_ ?_ ?_
    · rw [upK (by omega), hk _ _ _ (by omega) (by omega)]
    · rw [upK (by omega), hk _ _ _ (by omega) (by omega)]
    · rw [upT_x (by omega), z0 _ (by omega)]
    · rw [upT_kk (by omega), z0 _ (by omega)]
  · refine hA.2.2.2.1.c ?_ ?_ ?_ ?_ ?_
    · rw [upK (by omega)]; funext j i; exact hk _ _ i (by omega) (by omega)
    · rw [upK (by omega)]; funext j i; exact hk _ _ i (by omega) (by omega)
    · rw [upT_kk (by omega), z0 _ (by omega)]
    · rw [upT_kk (by omega), z0 _ (by omega)]
    · rw [upT_kk (by omega), z0 _ (by omega)]
  · refine ⟨by rw [up_self, upT_self], fun _ => ⟨?_, fun l hl => ?_⟩, fun x hx => ?_⟩
    · have e : bk (up (cpBk m 1 0) 0 0 0 2 1) 1 = bk (cpBk m 1 0) 1 := bk_congr (by rw [upK (by omega)]) (by rw [upK (by omega)]) (by rw [upK (by omega)]) (by rw [upK (by omega)])
      rw [e]
      refine hA.1.e (cpBk_bk (by omega)) ⟨?_, ?_, fun d hd => ?_, fun p hq => ?_⟩
      · show upT Z 29 24 1 55 136 = S 29 0
        rw [upT_k (by omega), z4]
      · show upT Z 29 24 1 55 137 = S 29 2
        rw [upT_k (by omega), z5]
      · have hd2 : (d : Int) < S 29 0 := hd
        refine lt8 ?_ ?_ ?_ ?_ ?_ ?_ ?_ ?_ <;> (show upT Z 29 24 1 55 _ = S 31 _) <;> (rw [upT_k (by omega)]; exact z1 _ (by omega))
      · have hq2 : (p : Int) < S 29 2 := hq
        refine lt812 ?_ ?_ ?_ ?_ <;> (show upT Z 29 24 1 55 (64 + _) = S 33 _) <;> (rw [upT_k (by omega)]; exact z2 _ (by omega))
    · have e : lw (up (cpBk m 1 0) 0 0 0 2 1) (2 + l) = lw (cpBk m 1 0) (2 * 1 + l) := lw_congr (by rw [upK (by omega)]) (by rw [upK (by omega)])
      rw [e]
      have h8 : 0 ≤ m 8 l 0 1 ∧ m 8 l 0 1 ≤ 10 := hI 8 l 0 1
      have h9 := hA.2.1 l hl
      have h7 : m 8 l 0 1 = S 37 l := h9.1
      have h6 := cpBk_lw (m := m) (b := 1) (b0 := 0) (l := l) (by omega) hl
      rw [show 2 * 0 + l = l by omega] at h6
      refine h9.e h6 ?_ (by omega) (fun k hk => ?_)
      · rw [upT_k (by omega)]
        rcases (show l = 0 ∨ l = 1 by omega) with rfl | rfl
        · exact z6
        · exact z7
      · rw [upT_k (by omega)]
        exact z3 _ (by omega)
    · rw [upT_k (by omega), z3 x hx]
      exact hS 36 x rfl
theorem s_image : Sim_image := simC fun m S hI hA hS _ => image_ok hI hA hS cyS0_at
