/-- what is left of a debt, and of all -/
theorem left_eq {β T D : PS} {y : Int} {d : Nat} (h : DR β T D y) (hd : (d : Int) < β 12 0) : leftS β T d = D 39 d + D 40 d := by
  obtain ⟨a1, a2, a3, -⟩ := h.2 d hd
  unfold leftS
  rw [h.1, a1, a2]
  by_cases c : β 1 d ≤ y
  · rw [if_pos c, if_pos c]
  · rw [if_neg c, if_neg c]
    have := (a3 (by omega)).2
    omega
theorem owed_eq {β T D : PS} {y : Int} (h : DR β T D y) : ∀ n : Nat, (n : Int) ≤ β 12 0 → owedL β T n = owM D n
  | 0, _ => rfl
  | n + 1, hn => by
    unfold owedL owM
    rw [owed_eq h n (by omega), left_eq h (by omega)]
theorem q_owed {m : Mem} {S : PS} {ln : Nat} {y : Int} (hI : Inv m) (hA : RlA m S) (hS : InvS kM S) (hO : mOK S) (hln : ln < 2) (hy : 0 ≤ y ∧ y ≤ 299) : owedL (qB m ln) (qS m ln y) ((stM m 0 0 ln) 1 (2 + 0) 0 1).toNat = owM (mdS S ln (y + 1).toNat) (S 29 0).toNat := by
  have hq := q_sim hI hA hS hO hln hy
  have hc := q_cnt hI hA hln
  have e : stM m 0 0 ln 1 (2 + 0) 0 1 = S 29 0 := hc
  have p : 0 ≤ S 29 0 ∧ S 29 0 ≤ 8 := hS 29 0 rfl
  rw [e]
  exact owed_eq hq _ (by rw [hc]; omega)
theorem s_owed : Sim_owed := by
  intro l y hl hy
  refine simQ fun m S hI hA hS hO => ?_
  unfold owedR owedM nowedR nowedS
  by_cases c1 : ¬ ((0 ≤ l ∧ l ≤ 1) ∧ (0 ≤ y ∧ y ≤ 299))
  · simp only [if_pos c1]; exact ⟨hI, Core.rf, trivial, hS, WG.rf⟩
  simp only [if_neg c1]
  have hM := md_q (l := l.toNat) hS hO (show 0 ≤ y ∧ y ≤ 299 by omega)
  exact ⟨qM_inv hI (by omega), qM_core, q_owed hI hA hS hO (by omega) (by omega), hM.1, hM.2⟩
theorem s_wakes : Sim_wakes := by
  intro N hN l d hl hd
  refine simQ fun m S hI hA hS hO => ?_
  have e0 : m 1 0 0 1 = S 29 0 := hA.1.1
  unfold wakesR wakesM nwakesR nwakesS
  rw [e0]
  by_cases c1 : ¬ ((0 ≤ l ∧ l ≤ 1) ∧ (0 ≤ d ∧ d ≤ S 29 0 - 1))
  · simp only [if_pos c1]; exact ⟨hI, Core.rf, trivial, hS, WG.rf⟩
  simp only [if_neg c1]
  obtain ⟨x, rfl⟩ : ∃ x : Nat, d = x := ⟨d.toNat, by omega⟩
  obtain ⟨y, hy⟩ : ∃ y : Int, y = 299 := ⟨_, rfl⟩
  have hq := q_sim (ln := l.toNat) hI hA hS hO (by omega) (show 0 ≤ y ∧ y ≤ 299 by omega)
  have hM := md_q (l := l.toNat) hS hO (show 0 ≤ y ∧ y ≤ 299 by omega)
  have hc := q_cnt (ln := l.toNat) hI hA (by omega)
  rw [show (y + 1).toNat = N by omega] at hq hM
  rw [hy] at hq
  obtain ⟨-, -, -, -, a5, -⟩ := hq.2 x (by rw [hc]; omega)
  rw [Int.toNat_natCast]
  exact ⟨qM_inv hI (by omega), qM_core, a5.symm, hM.1, hM.2⟩
theorem s_gap : Sim_gap := by
  intro y hy
  refine simQ fun m S hI hA hS hO => ?_
  unfold gapR gapM ngapR ngapS
  by_cases c1 : ¬ (0 ≤ y ∧ y ≤ 299)
  · simp only [if_pos c1]; exact ⟨hI, Core.rf, trivial, hS, WG.rf⟩
  simp only [if_neg c1]
  have hy2 : 0 ≤ y ∧ y ≤ 299 := by omega
  have hM := md_q (l := 1) hS hO hy2
  have hI2 : Inv (qM m 1 y) := qM_inv hI hy2.2
  have hA2 : RlA (qM m 1 y) (mdS S 1 (y + 1).toNat) := hA.c qM_core hM.2
  have hO2 : mOK (mdS S 1 (y + 1).toNat) := hO.wg hM.2
  have hM2 := md_q (l := 0) hM.1 hO2 hy2
  have g1 := q_owed (ln := 1) hI hA hS hO (by omega) hy2
  have g2 := q_owed (ln := 0) hI2 hA2 hM.1 hO2 (by omega) hy2
  exact ⟨qM_inv hI2 hy2.2, qM_core.tr qM_core, by rw [g1, g2], hM2.1, hM.2.tr hM2.2⟩
theorem jd_eq {M : Mem} {T D : PS} {s fr : Int} {y : Int} (h : DR (bk M (2 + 0)) T D y) (hs : 0 ≤ s ∧ s ≤ 3) (hf : 0 ≤ fr) (h28 : ∀ i, i < 24 → D 58 (24 * s.toNat + i) = M 28 s.toNat 0 i) : ∀ k d : Nat, fr + d + k ≤ 24 → (d : Int) + k ≤ bk M (2 + 0) 12 0 → jdF M T s.toNat fr k d = jdN D s fr k d
  | 0, _, _, _ => rfl
  | k + 1, d, h1, h2 => by
    unfold jdF jdN
    rw [left_eq h (by omega), jd_eq h hs hf h28 k (d + 1) (by omega) (by omega), show (24 * s + fr + (d : Int)).toNat = 24 * s.toNat + (fr + (d : Int)).toNat by omega, h28 _ (by omega)]
    by_cases c : M 28 s.toNat 0 (fr + (d : Int)).toNat = (D 39 d + D 40 d) / 10000
    · rw [if_pos c, if_pos c.symm]
    · rw [if_neg c, if_neg (fun e => c e.symm)]
theorem stM_28 {m : Mem} {ln k : Nat} (h : 9 < k) : stM m 0 0 ln k = m k := by
  funext j i
  unfold stM
  rw [cpLaw_o (by omega), cpBk_o (by omega) (by omega)]
theorem s_judge : Sim_judge := by
  intro l y s la fr hl hy hs hla hfr
  refine simQ fun m S hI hA hS hO => ?_
  have e0 : m 1 0 0 1 = S 29 0 := hA.1.1
  have p : 0 ≤ S 29 0 ∧ S 29 0 ≤ 8 := hS 29 0 rfl
  unfold judgeR judgeM njudgeR njudgeS
  by_cases c1 : ¬ ((0 ≤ l ∧ l ≤ 1) ∧ (0 ≤ y ∧ y ≤ 299) ∧ (0 ≤ s ∧ s ≤ 3) ∧ (0 ≤ la ∧ la ≤ 2))
  · simp only [if_pos c1]; exact ⟨hI, Core.rf, trivial, hS, WG.rf⟩
  simp only [if_neg c1, e0]
  have hy2 : 0 ≤ y ∧ y ≤ 299 := by omega
  simp only [lack_eq hI hA.2.2.2.1 (show s.toNat < 4 by omega) (show 0 ≤ la ∧ la ≤ 2 by omega)]
  have r := refR_rg m s.toNat la fr (S 29 0)
  by_cases c2 : refR m s.toNat la fr (S 29 0) = 0
  · obtain ⟨z1, z2, z3, z4⟩ := refR_0 c2
    have b1 : 0 ≤ m 27 s.toNat 0 1 ∧ m 27 s.toNat 0 1 ≤ 24 := hI 27 s.toNat 0 1
    simp only [if_neg (show ¬ refR m s.toNat la fr (S 29 0) ≠ 0 by omega), if_neg (show ¬ refR m s.toNat la fr (S 29 0) < 0 by omega)]
    have hM := md_q (l := l.toNat) hS hO hy2
    have hq := q_sim (ln := l.toNat) hI hA hS hO (by omega) hy2
    have hc := q_cnt (ln := l.toNat) hI hA (by omega)
    have e1 : stM m 0 0 l.toNat 1 0 0 1 = S 29 0 := by
      have := stM_core (m := m) (c := 0) (b0 := 0) (ln := l.toNat) (k := 1) (j := 0) (i := 0) rfl
      rw [this]; exact e0
    have hc2 : bk (stM m 0 0 l.toNat) (2 + 0) 12 0 = S 29 0 := hc
    refine ⟨qM_inv hI hy2.2, qM_core, ?_, hM.1, hM.2⟩
    rw [e1]
    refine jd_eq hq (by omega) z3 (fun i hi => ?_) _ 0 (by omega) (by rw [hc2]; omega)
    rw [stM_28 (by omega), hM.2.1 58 (by omega) (by omega) (by omega)]
    exact (hA.2.2.2.1 s.toNat (by omega)).2.2 i hi
  · simp only [if_pos (show refR m s.toNat la fr (S 29 0) ≠ 0 from c2), if_pos (show refR m s.toNat la fr (S 29 0) < 0 by omega)]
    exact ⟨hI, Core.rf, trivial, hS, WG.rf⟩
