theorem restore_ok {m : Mem} {S Z : PS} (hI : Inv m) (hA : RlA m S) (hS : InvS kM S) (c0 : ¬ S 29 24 = 0) (hz : CyR S Z) : Ok4 m (cpBk m 0 1) Z := by
  have hI0 := hA.2.2.2.2.1
  obtain ⟨hB, hL⟩ := hA.2.2.2.2.2.1 (by omega)
  have h55 := hA.2.2.2.2.2.2
  obtain ⟨z0, z1, z1', z2, z2', z3, z3', z4, z5, z5', z6, z7, z7'⟩ := hz
  have hk : ∀ k j i, (k ≠ 1 ∧ k ≠ 5 ∧ k ≠ 6 ∧ k ≠ 7) ∨ j ≠ 0 → (k ≠ 8 ∧ k ≠ 9) ∨ (j ≠ 2 * 0 ∧ j ≠ 2 * 0 + 1) → cpBk m 0 1 k j i = m k j i := fun k j i h1 h2 => cpBk_o h1 h2
  have e0 : m 1 1 0 1 = S 55 136 := hB.1
  have e2 : m 1 1 0 3 = S 55 137 := hB.2.1
  have b0 : 0 ≤ m 1 1 0 1 ∧ m 1 1 0 1 ≤ 8 := hI 1 1 0 1
  have b2 : 0 ≤ m 1 1 0 3 ∧ m 1 1 0 3 ≤ 12 := hI 1 1 0 3
  have bl : ∀ l, l < 2 → 0 ≤ S 55 (138 + l) ∧ S 55 (138 + l) ≤ 10 := fun l hl => by
    have h8 : 0 ≤ m 8 (2 + l) 0 1 ∧ m 8 (2 + l) 0 1 ≤ 10 := hI 8 (2 + l) 0 1
    have h9 : m 8 (2 + l) 0 1 = S 55 (138 + l) := (hL l hl).1
    omega
  have b7 := bl 0 (by omega)
  have b8 := bl 1 (by omega)
  have hZ : InvS kM Z := by
    intro k x hk
    by_cases c1 : k = 31
    · subst c1
      by_cases x1 : x < 64
      · rw [z1 x x1]; exact hS 55 x rfl
      · rw [z1' x (by omega)]; exact hS 31 x rfl
    by_cases c2 : k = 33
    · subst c2
      by_cases x1 : x < 48
      · rw [z2 x x1]; exact hS 55 _ rfl
      · rw [z2' x (by omega)]; exact hS 33 x rfl
    by_cases c3 : k = 36
    · subst c3
      by_cases x1 : x < 24
      · rw [z3 x x1]; exact h55 x x1
      · rw [z3' x (by omega)]; exact hS 36 x rfl
    by_cases c4 : k = 37
    · subst c4
      by_cases x1 : x = 0
      · subst x1; rw [z6]; exact ⟨b7.1, Int.le_trans b7.2 (by decide)⟩
      by_cases x2 : x = 1
      · subst x2; rw [z7]; exact ⟨b8.1, Int.le_trans b8.2 (by decide)⟩
      rw [z7' x (by omega)]; exact hS 37 x rfl
    by_cases c5 : k = 29
    · subst c5
      by_cases x1 : x = 0
      · subst x1; rw [z4]; show 0 ≤ S 55 136 ∧ S 55 136 ≤ 8; omega
      by_cases x2 : x = 2
      · subst x2; rw [z5]; show 0 ≤ S 55 137 ∧ S 55 137 ≤ 12; omega
      rw [z5' x x1 x2]; exact hS 29 x rfl
    rw [z0 k c1 c2 c3 c4 c5]; exact hS k x hk
  have e55 : Z 55 = S 55 := z0 55 (by omega) (by omega) (by omega) (by omega) (by omega)
  refine ⟨hI.cpBk, fun k h29 => ?_, hZ, ?_, ?_, ?_, ?_, ?_⟩
  · funext j i
    exact hk k j i (by omega) (by omega)
  · refine hB.e (cpBk_bk (by omega)) ⟨z4, z5, fun d hd => ?_, fun p hq => ?_⟩
    · have hd2 : (d : Int) < S 55 136 := hd
      exact lt8 (z1 _ (by omega)) (z1 _ (by omega)) (z1 _ (by omega)) (z1 _ (by omega)) (z1 _ (by omega)) (z1 _ (by omega)) (z1 _ (by omega)) (z1 _ (by omega))
    · have hq2 : (p : Int) < S 55 137 := hq
      exact lt812 (z2 _ (by omega)) (z2 _ (by omega)) (z2 _ (by omega)) (z2 _ (by omega))
  · intro l hl
    have h6 := cpBk_lw (m := m) (b := 0) (b0 := 1) (l := l) (by omega) hl
    rw [show 2 * 0 + l = l by omega, show 2 * 1 + l = 2 + l by omega] at h6
    refine (hL l hl).e h6 ?_ (bl l hl).2 (fun k hk => z3 _ (by omega))
    rcases (show l = 0 ∨ l = 1 by omega) with rfl | rfl
    · exact z6
    · exact z7
  · exact hA.2.2.1.c (by rw [hk _ _ _ (by omega) (by omega)]) (hk _ _ _ (by omega) (by omega)) (z5' _ (by omega) (by omega)) (z0 _ (by omega) (by omega) (by omega) (by omega) (by omega))
  · refine hA.2.2.2.1.c ?_ ?_ (z0 _ (by omega) (by omega) (by omega) (by omega) (by omega)) (z0 _ (by omega) (by omega) (by omega) (by omega) (by omega)) (z0 _ (by omega) (by omega) (by omega) (by omega) (by omega))
    · funext j i; exact hk _ _ i (by omega) (by omega)
    · funext j i; exact hk _ _ i (by omega) (by omega)
  · refine hA.2.2.2.2.c (by rw [hk _ _ _ (by omega) (by omega)]) (bk_congr ?_ ?_ ?_ ?_) (fun l hl => lw_congr ?_ ?_) (z5' _ (by omega) (by omega)) e55
    all_goals (funext i; exact hk _ _ i (by omega) (by omega))
theorem s_restore : Sim_restore := by
  refine simC fun m S hI hA hS hO => ?_
  have hI0 := hA.2.2.2.2.1
  show Inv (restoreM m) ∧ (∀ k, 29 ≤ k → restoreM m k = m k) ∧ restoreR m = nrestoreR S ∧ InvS kM (nrestoreS S) ∧ RlA (restoreM m) (nrestoreS S)
  unfold restoreM restoreR nrestoreR nrestoreS
  by_cases c0 : S 29 24 = 0
  · rw [if_pos (show m 0 0 0 2 = 0 by omega), if_pos (show m 0 0 0 2 = 0 by omega), if_pos c0, if_pos c0]
    exact ⟨hI, fun _ _ => rfl, rfl, hS, hA⟩
  rw [if_neg (show ¬ m 0 0 0 2 = 0 by omega), if_neg (show ¬ m 0 0 0 2 = 0 by omega), if_neg c0, if_neg c0]
  obtain ⟨g1, g2, g3, g4⟩ := restore_ok hI hA hS c0 (cyS1_at (S := S))
  exact ⟨g1, g2, rfl, g3, g4⟩
