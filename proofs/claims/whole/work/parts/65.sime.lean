theorem RlA.tp {m m' : Mem} {S S' : PS} (h : RlA m S) (hT : RlT m' S') (hm : ∀ k, k ≠ 24 → k ≠ 25 → m' k = m k) (hS : ∀ k, k ≠ 29 → k ≠ 34 → k ≠ 38 → S' k = S k) (h29 : ∀ x, x ≠ 5 → S' 29 x = S 29 x) : RlA m' S' := by
  obtain ⟨a, b, c, d, e⟩ := h
  have q : ∀ k j, k ≠ 24 → k ≠ 25 → m' k j = m k j := fun k j h1 h2 => congrFun (hm k h1 h2) j
  exact ⟨a.c (bk_congr (q _ _ (by omega) (by omega)) (q _ _ (by omega) (by omega)) (q _ _ (by omega) (by omega)) (q _ _ (by omega) (by omega))) (bkM_congr (hS _ (by omega) (by omega) (by omega)) (hS _ (by omega) (by omega) (by omega)) (h29 _ (by omega)) (h29 _ (by omega))), b.c (fun l _ => lw_congr (q 8 l (by omega) (by omega)) (q 9 l (by omega) (by omega))) (hS _ (by omega) (by omega) (by omega)) (hS _ (by omega) (by omega) (by omega)), hT, d.c (hm _ (by omega) (by omega)) (hm _ (by omega) (by omega)) (hS _ (by omega) (by omega) (by omega)) (hS _ (by omega) (by omega) (by omega)) (hS _ (by omega) (by omega) (by omega)), e.c (by rw [hm 0 (by omega) (by omega)]) (bk_congr (q _ _ (by omega) (by omega)) (q _ _ (by omega) (by omega)) (q _ _ (by omega) (by omega)) (q _ _ (by omega) (by omega))) (fun l _ => lw_congr (q 8 _ (by omega) (by omega)) (q 9 _ (by omega) (by omega))) (h29 _ (by omega)) (hS _ (by omega) (by omega) (by omega))⟩
theorem RlA.sh {m m' : Mem} {S S' : PS} (h : RlA m S) (hT : RlS m' S') (hm : ∀ k, k ≠ 27 → k ≠ 28 → m' k = m k) (hS : ∀ k, k ≠ 56 → k ≠ 57 → k ≠ 58 → S' k = S k) : RlA m' S' := by
  obtain ⟨a, b, c, d, e⟩ := h
  have q : ∀ k j, k ≠ 27 → k ≠ 28 → m' k j = m k j := fun k j h1 h2 => congrFun (hm k h1 h2) j
  have h29 : ∀ x, S' 29 x = S 29 x := fun x => congrFun (hS 29 (by omega) (by omega) (by omega)) x
  exact ⟨a.c (bk_congr (q _ _ (by omega) (by omega)) (q _ _ (by omega) (by omega)) (q _ _ (by omega) (by omega)) (q _ _ (by omega) (by omega))) (bkM_congr (hS _ (by omega) (by omega) (by omega)) (hS _ (by omega) (by omega) (by omega)) (h29 _) (h29 _)), b.c (fun l _ => lw_congr (q 8 l (by omega) (by omega)) (q 9 l (by omega) (by omega))) (hS _ (by omega) (by omega) (by omega)) (hS _ (by omega) (by omega) (by omega)), c.c (by rw [hm 24 (by omega) (by omega)]) (by rw [hm 25 (by omega) (by omega)]) (h29 _) (hS _ (by omega) (by omega) (by omega)), hT, e.c (by rw [hm 0 (by omega) (by omega)]) (bk_congr (q _ _ (by omega) (by omega)) (q _ _ (by omega) (by omega)) (q _ _ (by omega) (by omega)) (q _ _ (by omega) (by omega))) (fun l _ => lw_congr (q 8 _ (by omega) (by omega)) (q 9 _ (by omega) (by omega))) (h29 _) (hS _ (by omega) (by omega) (by omega))⟩
theorem lack_eq {m : Mem} {S : PS} {s : Nat} {la fr n : Int} (hI : Inv m) (hA : RlS m S) (hs : s < 4) (hl : 0 ≤ la ∧ la ≤ 2) : lackR S s la fr n = refR m s la fr n := by
  obtain ⟨h1, h2, -⟩ := hA s hs
  have b3 : 0 ≤ m 27 s 0 3 ∧ m 27 s 0 3 ≤ 2 := hI 27 s 0 3
  unfold lackR refR
  rw [h1, h2]
  repeat' split
  all_goals omega
theorem refR_0 {m : Mem} {s : Nat} {la fr n : Int} (h : refR m s la fr n = 0) : m 27 s 0 0 ≠ 0 ∧ la = m 27 s 0 3 ∧ 0 ≤ fr ∧ fr ≤ m 27 s 0 1 - n := by
  unfold refR at h
  split at h
  · omega
  · split at h
    · omega
    · split at h
      · omega
      · omega
theorem s_count : Sim_count := by
  intro t ht
  refine simC fun m S hI hA hS hO => ?_
  have e0 : m 1 0 0 1 = S 29 0 := hA.1.1
  have e2 : m 1 0 0 3 = S 29 2 := hA.1.2.1
  have b0 : 0 ≤ m 1 0 0 1 ∧ m 1 0 0 1 ≤ 8 := hI 1 0 0 1
  have hM : countM m t = m := by unfold countM; split <;> (try split) <;> (try split) <;> (try split) <;> rfl
  have hN : ncountS S t = S := by unfold ncountS; split <;> (try split) <;> (try split) <;> rfl
  show Inv (countM m t) ∧ (∀ k, 29 ≤ k → countM m t k = m k) ∧ countR m t = ncountR S t ∧ InvS kM (ncountS S t) ∧ RlA (countM m t) (ncountS S t)
  rw [hM, hN]
  refine same5 hI hA hS ?_
  have h3 := hA.1.2.2.1
  have k2 : ∀ n : Nat, (n : Int) ≤ S 29 0 → cntL m 0 1 0 n = ctM S 2 n := by
    intro n
    induction n with
    | zero => intro _; rfl
    | succ n ih =>
      intro hn
      have a : m 6 0 n 1 = S 31 (8 * n + 5) := h3 n (show (n : Int) < m 1 0 0 1 by omega) 5 (by omega)
      unfold cntL ctM
      rw [ih (by omega), a, if_pos rfl]
  have k3 : ∀ n : Nat, (n : Int) ≤ S 29 0 → cntL m 0 2 1 n = ctM S 3 n := by
    intro n
    induction n with
    | zero => intro _; rfl
    | succ n ih =>
      intro hn
      have a : m 6 0 n 2 = S 31 (8 * n + 6) := h3 n (show (n : Int) < m 1 0 0 1 by omega) 6 (by omega)
      have b : 0 ≤ m 6 0 n 2 ∧ m 6 0 n 2 ≤ 1 := hI 6 0 n 2
      unfold cntL ctM
      rw [ih (by omega), if_neg (show ¬ (3 : Int) = 2 by omega), ← a]
      split <;> omega
  unfold countR ncountR
  by_cases c : 0 ≤ t ∧ t ≤ 3
  · rcases (show t = 0 ∨ t = 1 ∨ t = 2 ∨ t = 3 by omega) with rfl | rfl | rfl | rfl
    · simpa using e0
    · simpa using e2
    · simp [e0]; exact k2 _ (by omega)
    · simp [e0]; exact k3 _ (by omega)
  · rw [if_pos c, if_neg (show ¬ t = 0 by omega), if_neg (show ¬ t = 1 by omega), if_neg (show ¬ t = 2 by omega), if_neg (show ¬ t = 3 by omega)]
theorem s_letter : Sim_letter := by
  intro l i hl hi
  refine simC fun m S hI hA hS hO => ?_
  have hM : letterM m l i = m := by unfold letterM; split <;> (try split) <;> rfl
  have hN : nletterS S l i = S := by unfold nletterS; split <;> (try split) <;> rfl
  show Inv (letterM m l i) ∧ (∀ k, 29 ≤ k → letterM m l i k = m k) ∧ letterR m l i = nletterR S l i ∧ InvS kM (nletterS S l i) ∧ RlA (letterM m l i) (nletterS S l i)
  rw [hM, hN]
  refine same5 hI hA hS ?_
  unfold letterR nletterR
  by_cases c : (0 ≤ l ∧ l ≤ 1) ∧ 0 ≤ i
  · rw [if_neg (show ¬ ¬ ((0 ≤ l ∧ l ≤ 1) ∧ 0 ≤ i) by omega), if_neg (show ¬ (¬ (0 ≤ l ∧ l ≤ 1) ∨ i < 0) by omega)]
    obtain ⟨q, rfl⟩ : ∃ q : Nat, l = q := ⟨l.toNat, by omega⟩
    obtain ⟨x, rfl⟩ : ∃ x : Nat, i = x := ⟨i.toNat, by omega⟩
    obtain ⟨a1, a2, -⟩ := hA.2.1 q (by omega)
    have a1' : m 8 q 0 1 = S 37 q := a1
    have b : 0 ≤ m 8 q 0 1 ∧ m 8 q 0 1 ≤ 10 := hI 8 q 0 1
    rw [show 2 * 0 + (q : Int).toNat = q by omega, Int.toNat_natCast, Int.toNat_natCast, a1', show (12 * (q : Int) + (x : Int)).toNat = 12 * q + x by omega]
    by_cases c2 : (x : Int) < S 37 q
    · rw [if_pos (show (x : Int) < S 37 q ∧ (x : Int) < 10 by omega), if_pos c2]
      exact a2 x c2
    · rw [if_neg (show ¬ ((x : Int) < S 37 q ∧ (x : Int) < 10) by omega), if_neg c2]
  · rw [if_pos (show ¬ ((0 ≤ l ∧ l ≤ 1) ∧ 0 ≤ i) by omega), if_pos (show ¬ (0 ≤ l ∧ l ≤ 1) ∨ i < 0 by omega)]
theorem s_drop : Sim_drop := by
  intro s hs
  refine simC fun m S hI hA hS hO => ?_
  unfold dropR dropM ndropR ndropS
  by_cases c1 : ¬ (0 ≤ s ∧ s ≤ 3)
  · simp only [if_pos c1]; exact ⟨hI, fun _ _ => trivial, trivial, hS, hA⟩
  obtain ⟨q, rfl⟩ : ∃ q : Nat, s = q := ⟨s.toNat, by omega⟩
  simp only [if_neg c1, Int.toNat_natCast]
  have b3 : 0 ≤ m 27 q 0 3 ∧ m 27 q 0 3 ≤ 2 := hI 27 q 0 3
  obtain ⟨a1, a2, a3⟩ := hA.2.2.2.1 q (by omega)
  by_cases c2 : m 27 q 0 0 = 0
  · rw [if_pos c2] at a1
    simp only [if_pos c2, if_pos (show S 56 q < 0 by omega)]; exact ⟨hI, fun _ _ => trivial, trivial, hS, hA⟩
  · rw [if_neg c2] at a1
    simp only [if_neg c2, if_neg (show ¬ S 56 q < 0 by omega)]
    refine ⟨hI.up (show 0 ≤ (0 : Int) ∧ (0 : Int) ≤ 1 by omega), fun k hk => upK (by omega), a2.symm, hS.up (show -1 ≤ (-1 : Int) ∧ (-1 : Int) ≤ 2 by omega), hA.sh ?_ (fun k h1 h2 => upK h1) (fun k h1 h2 h3 => upT_kk h1)⟩
    intro s hs
    obtain ⟨d1, d2, d3⟩ := hA.2.2.2.1 s hs
    by_cases e : s = q
    · subst e
      simpa [upT, up] using ⟨d2, d3⟩
    · simpa [upT, up, e] using ⟨d1, d2, d3⟩
theorem nshL_at {S : PS} {s : Nat} : ∀ n : Nat, (∀ k, k ≠ 58 → nshL S s n k = S k) ∧ ∀ x, nshL S s n 58 x = if 24 * s ≤ x ∧ x < 24 * s + n then 0 else S 58 x
  | 0 => ⟨fun _ _ => rfl, fun x => by rw [if_neg (by omega)]; rfl⟩
  | n + 1 => by
    obtain ⟨h1, h2⟩ := nshL_at (S := S) (s := s) n
    refine ⟨fun k hk => ?_, fun x => ?_⟩
    · show upT (nshL S s n) 58 _ 0 k = S k
      rw [upT_kk hk, h1 k hk]
    · show upT (nshL S s n) 58 (24 * (s : Int) + (n : Int)).toNat 0 58 x = _
      rw [show (24 * (s : Int) + (n : Int)).toNat = 24 * s + n by omega]
      by_cases e : x = 24 * s + n
      · subst e
        rw [upT_self, if_pos (by omega)]
      · rw [upT_x e, h2 x]
        by_cases c : 24 * s ≤ x ∧ x < 24 * s + n
        · rw [if_pos c, if_pos (by omega)]
        · rw [if_neg c, if_neg (by omega)]
theorem s_sheet : Sim_sheet := by
  intro s la n hs hl hn
  refine simC fun m S hI hA hS hO => ?_
  unfold sheetR sheetM nsheetR nsheetS
  by_cases c1 : ¬ ((0 ≤ s ∧ s ≤ 3) ∧ (0 ≤ la ∧ la ≤ 2) ∧ n ≤ 24)
  · simp only [if_pos c1]; exact ⟨hI, fun _ _ => trivial, trivial, hS, hA⟩
  by_cases c2 : n < 0
  · simp only [if_neg c1, if_pos c2]; exact ⟨hI, fun _ _ => trivial, trivial, hS, hA⟩
  obtain ⟨q, rfl⟩ : ∃ q : Nat, s = q := ⟨s.toNat, by omega⟩
  simp only [if_neg c1, if_neg c2, Int.toNat_natCast]
  unfold begSh nsh
  obtain ⟨n1, n2⟩ := nshL_at (S := upT (upT S 56 (q : Int).toNat la) 57 (q : Int).toNat n) (s := q) 24
  generalize nshL (upT (upT S 56 (q : Int).toNat la) 57 (q : Int).toNat n) (q : Int) 24 = Z at n1 n2 ⊢
  rw [Int.toNat_natCast] at n1 n2
  refine ⟨fun k j i x => ?_, fun k hk => ?_, trivial, fun k x hk => ?_, hA.sh ?_ (fun k h1 h2 => ?_) (fun k h1 h2 h3 => ?_)⟩
  · unfold updS
    split
    · rename_i e
      obtain ⟨rfl, rfl, rfl⟩ := e
      unfold fil0
      show -2147483648 ≤ (if x < 24 then (0 : Int) else m 28 j 0 x) ∧ (if x < 24 then (0 : Int) else m 28 j 0 x) ≤ 2147483647
      have : -2147483648 ≤ m 28 j 0 x ∧ m 28 j 0 x ≤ 2147483647 := hI 28 j 0 x
      split <;> omega
    · have h0 : Inv (up (up (up m 27 q 0 0 1) 27 q 0 3 la) 27 q 0 1 n) := Inv.up (Inv.up (Inv.up hI (show 0 ≤ (1 : Int) ∧ (1 : Int) ≤ 1 by omega)) (show 0 ≤ la ∧ la ≤ 2 by omega)) (show 0 ≤ n ∧ n ≤ 24 by omega)
      exact h0 k j i x
  · funext j i
    unfold updS
    rw [if_neg (by omega), upK (by omega), upK (by omega), upK (by omega)]
  · by_cases e : k = 58
    · subst e
      rw [n2]
      have : -2147483648 ≤ S 58 x ∧ S 58 x ≤ 2147483647 := hS 58 x rfl
      show -2147483648 ≤ _ ∧ _ ≤ (2147483647 : Int)
      rw [upT_k (by omega), upT_k (by omega)]
      split <;> omega
    · rw [n1 k e]
      have h0 : InvS kM (upT (upT S 56 q la) 57 q n) := InvS.up (InvS.up hS (show -1 ≤ la ∧ la ≤ 2 by omega)) (show 0 ≤ n ∧ n ≤ 24 by omega)
      exact h0 k x hk
  · intro s hs
    obtain ⟨d1, d2, d3⟩ := hA.2.2.2.1 s hs
    rw [n1 56 (by omega), n1 57 (by omega)]
    by_cases e : s = q
    · subst e
      refine ⟨by simp [upT, updS, up], by simp [upT, updS, up], fun i hi => ?_⟩
      rw [n2, if_pos (by omega)]
      simp [updS, fil0, hi]
    · refine ⟨by simpa [upT, updS, up, e] using d1, by simpa [upT, updS, up, e] using d2, fun i hi => ?_⟩
      rw [n2, if_neg (by omega), upT_k (by omega), upT_k (by omega), d3 i hi]
      simp [updS, up, e]
  · funext j i
    unfold updS
    rw [if_neg (by omega), upK (by omega), upK (by omega), upK (by omega)]
  · rw [n1 k (by omega), upT_kk (by omega), upT_kk (by omega)]
