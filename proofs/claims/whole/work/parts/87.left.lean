/-- what a question asks of a course -/
theorem q_sim {m : Mem} {S : PS} {ln : Nat} {y : Int} (hI : Inv m) (hA : RlA m S) (hS : InvS kM S) (hO : mOK S) (hln : ln < 2) (hy : 0 ≤ y ∧ y ≤ 299) : DR (qB m ln) (qS m ln y) (mdS S ln (y + 1).toNat) y := by
  have hC := st_CR (j := 0) hI hA hln
  have hI3 : Inv (stM m 0 0 ln) := hI.stM
  unfold qS
  refine gb_sim hy hC (fun p _ => ⟨hI3 7 (2 + 0) p 0, hI3 7 (2 + 0) p 2, hI3 7 (2 + 0) p 3⟩) ?_ hS hO (hI3.S kC 0) (fun d => hI3 5 (2 + 0) d 0) (fun d => ?_)
  · have : 0 ≤ stM m 0 0 ln 1 (2 + 0) 0 3 ∧ stM m 0 0 ln 1 (2 + 0) 0 3 ≤ 12 := hI3 1 (2 + 0) 0 3
    exact this.2
  · have : 0 ≤ stM m 0 0 ln 5 (2 + 0) d 1 ∧ stM m 0 0 ln 5 (2 + 0) d 1 ≤ 299 := hI3 5 (2 + 0) d 1
    exact this.1
theorem q_cnt {m : Mem} {S : PS} {ln : Nat} (hI : Inv m) (hA : RlA m S) (hln : ln < 2) : qB m ln 12 0 = S 29 0 := (st_CR (j := 0) hI hA hln).1.1
theorem WF.wg {S D : PS} (h : WF S D) : WG S D := ⟨fun k h1 h2 _ => h.1 k h1 h2, h.2⟩
theorem md_q {S : PS} {l : Nat} {y : Int} (hS : InvS kM S) (hO : mOK S) (hy : 0 ≤ y ∧ y ≤ 299) : InvS kM (mdS S l (y + 1).toNat) ∧ WG S (mdS S l (y + 1).toNat) := by
  obtain ⟨o1, o2, o3, o4⟩ := md_ok (l := l) hS hO (y + 1).toNat (by omega)
  exact ⟨o1, o4.wg⟩
theorem WG.rf {S : PS} : WG S S := WF.rf.wg
theorem s_left : Sim_left := by
  intro l d y t hl hd hy ht
  refine simQ fun m S hI hA hS hO => ?_
  have e0 : m 1 0 0 1 = S 29 0 := hA.1.1
  unfold leftR leftM nleftR nleftS
  rw [e0]
  by_cases c1 : ¬ ((0 ≤ l ∧ l ≤ 1) ∧ (0 ≤ d ∧ d ≤ S 29 0 - 1) ∧ (0 ≤ y ∧ y ≤ 299) ∧ (0 ≤ t ∧ t ≤ 2))
  · simp only [if_pos c1]; exact ⟨hI, Core.rf, trivial, hS, WG.rf⟩
  simp only [if_neg c1]
  obtain ⟨x, rfl⟩ : ∃ x : Nat, d = x := ⟨d.toNat, by omega⟩
  have hq := q_sim (ln := l.toNat) hI hA hS hO (by omega) (show 0 ≤ y ∧ y ≤ 299 by omega)
  have hc := q_cnt (ln := l.toNat) hI hA (by omega)
  obtain ⟨a1, a2, a3, -⟩ := hq.2 x (by rw [hc]; omega)
  have h1 : qB m l.toNat 1 x = stM m 0 0 l.toNat 5 (2 + 0) x 1 := rfl
  have hM := md_q (l := l.toNat) hS hO (show 0 ≤ y ∧ y ≤ 299 by omega)
  have hI2 := qM_inv (ln := l.toNat) (y := y) hI (by omega)
  have hC2 := qM_core (m := m) (ln := l.toNat) (y := y)
  rw [Int.toNat_natCast]
  unfold leftS
  rw [← h1, hq.1]
  rcases (show t = 0 ∨ t = 1 ∨ t = 2 by omega) with rfl | rfl | rfl
  · simp only [if_true]
    exact ⟨hI2, hC2, a1.symm, hM.1, hM.2⟩
  · simp only [if_neg (show ¬ (1 : Int) = 0 by omega), if_true]
    refine ⟨hI2, hC2, ?_, hM.1, hM.2⟩
    rw [a2]
    by_cases c : qB m l.toNat 1 x ≤ y
    · rw [if_pos c]
    · rw [if_neg c]; exact (a3 (by omega)).2.symm
  · simp only [if_neg (show ¬ (2 : Int) = 0 by omega), if_neg (show ¬ (2 : Int) = 1 by omega)]
    refine ⟨hI2, hC2, ?_, hM.1, hM.2⟩
    rw [a1, a2]
    by_cases c : qB m l.toNat 1 x ≤ y
    · rw [if_pos c, if_pos c]
    · rw [if_neg c, if_neg c]; have := (a3 (by omega)).2; omega
