theorem s_debt : Sim_debt := by
  intro w s u t hw hs hu ht
  refine simC fun m S hI hA hS hO => ?_
  have e0 : m 1 0 0 1 = S 29 0 := hA.1.1
  have e2 : m 1 0 0 3 = S 29 2 := hA.1.2.1
  have b0 : 0 ≤ m 1 0 0 1 ∧ m 1 0 0 1 ≤ 8 := hI 1 0 0 1
  unfold debtR debtM ndebtR ndebtS
  by_cases c1 : ¬ ((1 ≤ w ∧ w ≤ 9999) ∧ (0 ≤ s ∧ s ≤ 299) ∧ (0 ≤ u ∧ u ≤ 299) ∧ (0 ≤ t ∧ t ≤ 99))
  · simp only [if_pos c1]; exact ⟨hI, fun _ _ => trivial, trivial, hS, hA⟩
  by_cases c2 : 8 ≤ m 1 0 0 1
  · simp only [if_neg c1, if_pos c2, if_pos (show S 29 0 = 8 by omega)]; exact ⟨hI, fun _ _ => trivial, trivial, hS, hA⟩
  simp only [if_neg c1, if_neg c2, if_neg (show ¬ S 29 0 = 8 by omega)]
  obtain ⟨n, hn⟩ : ∃ n : Nat, S 29 0 = n := ⟨(S 29 0).toNat, by omega⟩
  rw [e0, hn]
  have t0 : (8 * (n : Int)).toNat = 8 * n := by omega
  have t1 : (8 * (n : Int) + 1).toNat = 8 * n + 1 := by omega
  have t2 : (8 * (n : Int) + 2).toNat = 8 * n + 2 := by omega
  have t3 : (8 * (n : Int) + 3).toNat = 8 * n + 3 := by omega
  have t4 : (8 * (n : Int) + 4).toNat = 8 * n + 4 := by omega
  have t5 : (8 * (n : Int) + 5).toNat = 8 * n + 5 := by omega
  have t6 : (8 * (n : Int) + 6).toNat = 8 * n + 6 := by omega
  have t7 : (8 * (n : Int) + 7).toNat = 8 * n + 7 := by omega
  unfold begM mbeg
  rw [t0, t1, t2, t3, t4, t5, t6, t7, Int.toNat_natCast]
  refine ⟨?_, fun k hk => ?_, rfl, ?_, hA.bk ?_ (fun k j => ?_) (fun k => ?_) (fun x => ?_)⟩
  · refine Inv.up (Inv.up (Inv.up (Inv.up (Inv.up (Inv.up (Inv.up (Inv.up (Inv.up hI ?_) ?_) ?_) ?_) ?_) ?_) ?_) ?_) ?_ <;> (show _ ≤ _ ∧ _ ≤ _; omega)
  · repeat rw [upK (by omega)]
  · refine InvS.up (InvS.up (InvS.up (InvS.up (InvS.up (InvS.up (InvS.up (InvS.up (InvS.up hS ?_) ?_) ?_) ?_) ?_) ?_) ?_) ?_) ?_ <;> (show _ ≤ _ ∧ _ ≤ _; omega)
  · obtain ⟨-, -, h3, h4, h5, h6⟩ := hA.1
    refine ⟨by simp [bk, bkM, up, upT], by simpa [bk, bkM, up, upT] using e2, ?_, ?_, ?_, ?_⟩
    · intro d hd
      have hd2 : (d : Int) < n + 1 := by simpa [bk, up] using hd
      by_cases hdn : d = n
      · subst hdn
        refine lt8 ?_ ?_ ?_ ?_ ?_ ?_ ?_ ?_ <;> simp [bk, bkM, up, upT]
      · have h7 := h3 d (show (d : Int) < m 1 0 0 1 by omega)
        intro f hf
        rw [bk_d (m := m) (by repeat rw [up_i (by omega)]) (by repeat rw [up_i (by omega)]) f hf, bkM_d (S := S) (fun j hj => by rw [upT_k (by omega)]; repeat rw [upT_x (by omega)]) f hf]
        exact h7 f hf
    · intro q hq f f8 f12
      have hq2 : (q : Int) < m 1 0 0 3 := by simpa [bk, up] using hq
      rw [bk_p (m := m) (by repeat rw [up_i (by omega)]) f f8 f12, bkM_p (S := S) (fun j hj => by repeat rw [upT_k (by omega)]) f f8 f12]
      exact h4 q hq2 f f8 f12
    · intro d hd
      have hd2 : (d : Int) < n + 1 := by simpa [bk, up] using hd
      by_cases hdn : d = n
      · subst hdn
        simp [bk, up]; omega
      · rw [bk_d (m := m) (by repeat rw [up_i (by omega)]) (by repeat rw [up_i (by omega)]) 0 (by omega)]
        exact h5 d (show (d : Int) < m 1 0 0 1 by omega)
    · intro q hq
      have hq2 : (q : Int) < m 1 0 0 3 := by simpa [bk, up] using hq
      rw [bk_p (m := m) (by repeat rw [up_i (by omega)]) 9 (by omega) (by omega)]
      exact h6 q hq2
  · by_cases c : (k = 1 ∨ k = 5 ∨ k = 6 ∨ k = 7) ∧ j = 0
    · exact Or.inl c
    · right; repeat rw [up_kj (by omega)]
  · by_cases c : k = 29 ∨ k = 31 ∨ k = 33
    · omega
    · right; right; right; repeat rw [upT_kk (by omega)]
  · by_cases c : x = 0
    · exact Or.inl c
    · right; right; rw [upT_x c]; repeat rw [upT_k (by omega)]
