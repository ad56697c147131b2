abbrev Ok4 (m m' : Mem) (S' : PS) : Prop := Inv m' ∧ (∀ k, 29 ≤ k → m' k = m k) ∧ InvS kM S' ∧ RlA m' S'
theorem pay_set {m : Mem} {S : PS} {p x : Nat} {v : Int} (hI : Inv m) (hA : RlA m S) (hS : InvS kM S) (hx : (x = 0 ∧ 0 ≤ v ∧ v ≤ 299) ∨ ((x = 2 ∨ x = 3) ∧ -1 ≤ v ∧ v ≤ 7)) : Ok4 m (up m 7 0 p x v) (upT S 33 (4 * p + x) v) := by
  refine ⟨hI.up ?_, fun k hk => upK (by omega), hS.up (show -1 ≤ v ∧ v ≤ 9999 by omega), hA.bk ?_ (fun k j => ?_) (fun k => ?_) (fun x => Or.inr (Or.inr (upT_k (by omega))))⟩
  · rcases hx with ⟨rfl, h⟩ | ⟨rfl | rfl, h⟩ <;> exact h
  · obtain ⟨h1, h2, h3, h4, h5, h6⟩ := hA.1
    refine ⟨by simpa [bk, bkM, up, upT] using h1, by simpa [bk, bkM, up, upT] using h2, ?_, ?_, ?_, ?_⟩
    · intro d hd f hf
      rw [bk_d (m := m) (by rw [up_i (by omega)]) (by rw [up_i (by omega)]) f hf, bkM_d (S := S) (fun j hj => by rw [upT_k (by omega)]) f hf]
      exact h3 d (by simpa [bk, up] using hd) f hf
    · intro q hq
      have h7 := h4 q (by simpa [bk, up] using hq)
      by_cases hqp : q = p
      · subst hqp
        have a0 : m 7 0 q 0 = S 33 (4 * q) := h7 8 (by omega) (by omega)
        have a1 : m 7 0 q 1 = S 33 (4 * q + 1) := h7 9 (by omega) (by omega)
        have a2 : m 7 0 q 2 = S 33 (4 * q + 2) := h7 10 (by omega) (by omega)
        have a3 : m 7 0 q 3 = S 33 (4 * q + 3) := h7 11 (by omega) (by omega)
        rcases hx with ⟨rfl, h⟩ | ⟨rfl | rfl, h⟩ <;> refine lt812 ?_ ?_ ?_ ?_ <;> simp [bk, bkM, up, upT, a0, a1, a2, a3]
      · intro f f8 f12
        rw [bk_p (m := m) (by rw [up_i (by omega)]) f f8 f12, bkM_p (S := S) (fun j hj => by rw [upT_x (by omega)]) f f8 f12]
        exact h7 f f8 f12
    · intro d hd
      rw [bk_d (m := m) (by rw [up_i (by omega)]) (by rw [up_i (by omega)]) 0 (by omega)]
      exact h5 d (by simpa [bk, up] using hd)
    · intro q hq
      have h8 : 1 ≤ m 7 0 q 1 := h6 q (by simpa [bk, up] using hq)
      show 1 ≤ up m 7 0 p x v 7 0 q 1
      unfold up
      rw [if_neg (by omega)]
      exact h8
  · by_cases c : k = 7 ∧ j = 0
    · omega
    · right; rw [up_kj (by omega)]
  · by_cases c : k = 33
    · omega
    · right; right; right; rw [upT_kk (by omega)]
theorem debt_set {m : Mem} {S : PS} {d x g : Nat} {v : Int} (hI : Inv m) (hA : RlA m S) (hS : InvS kM S) (hx : ((x = 0 ∧ g = 4 ∨ x = 2 ∧ g = 6) ∧ 0 ≤ v ∧ v ≤ 1) ∨ (x = 1 ∧ g = 5 ∧ -1 ≤ v ∧ v ≤ 5) ∨ ((x = 3 ∧ g = 7 ∨ x = 5 ∧ g = 2) ∧ 0 ≤ v ∧ v ≤ 299) ∨ (x = 4 ∧ g = 3 ∧ 0 ≤ v ∧ v ≤ 99)) : Ok4 m (up m 6 0 d x v) (upT S 31 (8 * d + g) v) := by
  refine ⟨hI.up ?_, fun k hk => upK (by omega), hS.up (show -1 ≤ v ∧ v ≤ 9999 by omega), hA.bk ?_ (fun k j => ?_) (fun k => ?_) (fun x => Or.inr (Or.inr (upT_k (by omega))))⟩
  · rcases hx with ⟨⟨rfl, -⟩ | ⟨rfl, -⟩, h⟩ | ⟨rfl, -, h⟩ | ⟨⟨rfl, -⟩ | ⟨rfl, -⟩, h⟩ | ⟨rfl, -, h⟩ <;> exact h
  · obtain ⟨h1, h2, h3, h4, h5, h6⟩ := hA.1
    refine ⟨by simpa [bk, bkM, up, upT] using h1, by simpa [bk, bkM, up, upT] using h2, ?_, ?_, ?_, ?_⟩
    · intro q hq
      have h7 := h3 q (by simpa [bk, up] using hq)
      by_cases hqp : q = d
      · subst hqp
        have a0 : m 5 0 q 0 = S 31 (8 * q) := h7 0 (by omega)
        have a1 : m 5 0 q 1 = S 31 (8 * q + 1) := h7 1 (by omega)
        have a2 : m 6 0 q 5 = S 31 (8 * q + 2) := h7 2 (by omega)
        have a3 : m 6 0 q 4 = S 31 (8 * q + 3) := h7 3 (by omega)
        have a4 : m 6 0 q 0 = S 31 (8 * q + 4) := h7 4 (by omega)
        have a5 : m 6 0 q 1 = S 31 (8 * q + 5) := h7 5 (by omega)
        have a6 : m 6 0 q 2 = S 31 (8 * q + 6) := h7 6 (by omega)
        have a7 : m 6 0 q 3 = S 31 (8 * q + 7) := h7 7 (by omega)
        rcases hx with ⟨⟨rfl, rfl⟩ | ⟨rfl, rfl⟩, h⟩ | ⟨rfl, rfl, h⟩ | ⟨⟨rfl, rfl⟩ | ⟨rfl, rfl⟩, h⟩ | ⟨rfl, rfl, h⟩ <;> refine lt8 ?_ ?_ ?_ ?_ ?_ ?_ ?_ ?_ <;> simp [bk, bkM, up, upT, a0, a1, a2, a3, a4, a5, a6, a7]
      · intro f hf
        rw [bk_d (m := m) (by rw [up_i (by omega)]) (by rw [up_i (by omega)]) f hf, bkM_d (S := S) (fun j hj => by rw [upT_x (by omega)]) f hf]
        exact h7 f hf
    · intro q hq f f8 f12
      rw [bk_p (m := m) (by rw [up_i (by omega)]) f f8 f12, bkM_p (S := S) (fun j hj => by rw [upT_k (by omega)]) f f8 f12]
      exact h4 q (by simpa [bk, up] using hq) f f8 f12
    · intro q hq
      have h8 : 1 ≤ m 5 0 q 0 := h5 q (by simpa [bk, up] using hq)
      show 1 ≤ up m 6 0 d x v 5 0 q 0
      rw [upK (by omega)]
      exact h8
    · intro q hq
      rw [bk_p (m := m) (by rw [up_i (by omega)]) 9 (by omega) (by omega)]
      exact h6 q (by simpa [bk, up] using hq)
  · by_cases c : k = 6 ∧ j = 0
    · omega
    · right; rw [up_kj (by omega)]
  · by_cases c : k = 31
    · omega
    · right; right; right; rw [upT_kk (by omega)]
theorem add_ok {m : Mem} {S : PS} {y w : Int} (hI : Inv m) (hA : RlA m S) (hS : InvS kM S) (hc : S 29 2 < 12) (hy : 0 ≤ y ∧ y ≤ 299) (hw : 1 ≤ w ∧ w ≤ 9999) : Ok4 m (addM m 0 y w) (nadd S y w) := by
  have e0 : m 1 0 0 1 = S 29 0 := hA.1.1
  have e2 : m 1 0 0 3 = S 29 2 := hA.1.2.1
  have b0 : 0 ≤ m 1 0 0 3 ∧ m 1 0 0 3 ≤ 12 := hI 1 0 0 3
  unfold addM nadd
  obtain ⟨n, hn⟩ : ∃ n : Nat, S 29 2 = n := ⟨(S 29 2).toNat, by omega⟩
  rw [e2, hn]
  have t0 : (4 * (n : Int)).toNat = 4 * n := by omega
  have t1 : (4 * (n : Int) + 1).toNat = 4 * n + 1 := by omega
  have t2 : (4 * (n : Int) + 2).toNat = 4 * n + 2 := by omega
  have t3 : (4 * (n : Int) + 3).toNat = 4 * n + 3 := by omega
  rw [t0, t1, t2, t3, Int.toNat_natCast]
  refine ⟨?_, fun k hk => ?_, ?_, hA.bk ?_ (fun k j => ?_) (fun k => ?_) (fun x => ?_)⟩
  · refine Inv.up (Inv.up (Inv.up (Inv.up (Inv.up hI ?_) ?_) ?_) ?_) ?_ <;> (show _ ≤ _ ∧ _ ≤ _; omega)
  · repeat rw [upK (by omega)]
  · refine InvS.up (InvS.up (InvS.up (InvS.up (InvS.up hS ?_) ?_) ?_) ?_) ?_ <;> (show _ ≤ _ ∧ _ ≤ _; omega)
  · obtain ⟨-, -, h3, h4, h5, h6⟩ := hA.1
    refine ⟨by simpa [bk, bkM, up, upT] using e0, by simp [bk, bkM, up, upT], ?_, ?_, ?_, ?_⟩
    · intro d hd f hf
      have hd2 : (d : Int) < m 1 0 0 1 := by simpa [bk, up] using hd
      rw [bk_d (m := m) (by repeat rw [up_i (by omega)]) (by repeat rw [up_i (by omega)]) f hf, bkM_d (S := S) (fun j hj => by repeat rw [upT_k (by omega)]) f hf]
      exact h3 d hd2 f hf
    · intro q hq
      have hq2 : (q : Int) < n + 1 := by simpa [bk, up] using hq
      by_cases hqn : q = n
      · subst hqn
        refine lt812 ?_ ?_ ?_ ?_ <;> simp [bk, bkM, up, upT]
      · intro f f8 f12
        rw [bk_p (m := m) (by repeat rw [up_i (by omega)]) f f8 f12, bkM_p (S := S) (fun j hj => by rw [upT_k (by omega)]; repeat rw [upT_x (by omega)]) f f8 f12]
        exact h4 q (show (q : Int) < m 1 0 0 3 by omega) f f8 f12
    · intro d hd
      have hd2 : (d : Int) < m 1 0 0 1 := by simpa [bk, up] using hd
      rw [bk_d (m := m) (by repeat rw [up_i (by omega)]) (by repeat rw [up_i (by omega)]) 0 (by omega)]
      exact h5 d hd2
    · intro q hq
      have hq2 : (q : Int) < n + 1 := by simpa [bk, up] using hq
      by_cases hqn : q = n
      · subst hqn
        simp [bk, up]; omega
      · rw [bk_p (m := m) (by repeat rw [up_i (by omega)]) 9 (by omega) (by omega)]
        exact h6 q (show (q : Int) < m 1 0 0 3 by omega)
  · by_cases c : (k = 1 ∨ k = 5 ∨ k = 6 ∨ k = 7) ∧ j = 0
    · exact Or.inl c
    · right; repeat rw [up_kj (by omega)]
  · by_cases c : k = 29 ∨ k = 31 ∨ k = 33
    · omega
    · right; right; right; repeat rw [upT_kk (by omega)]
  · by_cases c : x = 2
    · exact Or.inr (Or.inl c)
    · right; right; rw [upT_x c]; repeat rw [upT_k (by omega)]
theorem s_pay : Sim_pay := by
  intro y w hy hw
  refine simC fun m S hI hA hS hO => ?_
  have e2 : m 1 0 0 3 = S 29 2 := hA.1.2.1
  have b0 : 0 ≤ m 1 0 0 3 ∧ m 1 0 0 3 ≤ 12 := hI 1 0 0 3
  unfold payR payM npayR npayS
  by_cases c1 : ¬ ((0 ≤ y ∧ y ≤ 299) ∧ 1 ≤ w ∧ w ≤ 9999)
  · simp only [if_pos c1]; exact ⟨hI, fun _ _ => trivial, trivial, hS, hA⟩
  by_cases c2 : 12 ≤ m 1 0 0 3
  · simp only [if_neg c1, if_pos c2, if_pos (show S 29 2 = 12 by omega)]; exact ⟨hI, fun _ _ => trivial, trivial, hS, hA⟩
  simp only [if_neg c1, if_neg c2, if_neg (show ¬ S 29 2 = 12 by omega)]
  obtain ⟨a1, a2, a3, a4⟩ := add_ok (y := y) (w := w) hI hA hS (by omega) (by omega) (by omega)
  exact ⟨a1, a2, e2, a3, a4⟩
theorem s_word : Sim_word := by
  intro p t d hq ht hd
  refine simC fun m S hI hA hS hO => ?_
  have e0 : m 1 0 0 1 = S 29 0 := hA.1.1
  have e2 : m 1 0 0 3 = S 29 2 := hA.1.2.1
  have b0 : 0 ≤ m 1 0 0 1 ∧ m 1 0 0 1 ≤ 8 := hI 1 0 0 1
  unfold wordR wordM nwordR nwordS
  by_cases c1 : ¬ ((0 ≤ p ∧ p ≤ m 1 0 0 3 - 1) ∧ (0 ≤ t ∧ t ≤ 1) ∧ (d = -1 ∨ (0 ≤ d ∧ d ≤ m 1 0 0 1 - 1)))
  · simp only [if_pos c1, if_pos (show ¬ ((0 ≤ p ∧ p ≤ S 29 2 - 1) ∧ (0 ≤ t ∧ t ≤ 1) ∧ (-1 ≤ d ∧ d ≤ S 29 0 - 1)) by omega)]; exact ⟨hI, fun _ _ => trivial, trivial, hS, hA⟩
  simp only [if_neg c1, if_neg (show ¬ ¬ ((0 ≤ p ∧ p ≤ S 29 2 - 1) ∧ (0 ≤ t ∧ t ≤ 1) ∧ (-1 ≤ d ∧ d ≤ S 29 0 - 1)) by omega)]
  obtain ⟨n, hn⟩ : ∃ n : Nat, p = n := ⟨p.toNat, by omega⟩
  have h4 := hA.1.2.2.2.1 n (show (n : Int) < m 1 0 0 3 by omega)
  have a2 : m 7 0 n 2 = S 33 (4 * n + 2) := h4 10 (by omega) (by omega)
  have a3 : m 7 0 n 3 = S 33 (4 * n + 3) := h4 11 (by omega) (by omega)
  subst hn
  rcases (show t = 0 ∨ t = 1 by omega) with rfl | rfl
  · rw [show (4 * (n : Int) + 2 + 0).toNat = 4 * n + 2 by omega, Int.toNat_natCast]
    simp only [if_true]
    obtain ⟨g1, g2, g3, g4⟩ := pay_set (p := n) (x := 2) (v := d) hI hA hS (by omega)
    exact ⟨g1, g2, a2, g3, g4⟩
  · rw [show (4 * (n : Int) + 2 + 1).toNat = 4 * n + 3 by omega, Int.toNat_natCast]
    simp only [if_neg (show ¬ (1 : Int) = 0 by omega)]
    obtain ⟨g1, g2, g3, g4⟩ := pay_set (p := n) (x := 3) (v := d) hI hA hS (by omega)
    exact ⟨g1, g2, a3, g3, g4⟩
theorem s_move : Sim_move := by
  intro p y hq hy
  refine simC fun m S hI hA hS hO => ?_
  have e2 : m 1 0 0 3 = S 29 2 := hA.1.2.1
  unfold moveR moveM nmoveR nmoveS
  rw [e2]
  by_cases c1 : ¬ ((0 ≤ p ∧ p ≤ S 29 2 - 1) ∧ (0 ≤ y ∧ y ≤ 299))
  · simp only [if_pos c1]; exact ⟨hI, fun _ _ => trivial, trivial, hS, hA⟩
  simp only [if_neg c1]
  obtain ⟨n, hn⟩ : ∃ n : Nat, p = n := ⟨p.toNat, by omega⟩
  have h4 := hA.1.2.2.2.1 n (show (n : Int) < m 1 0 0 3 by omega)
  have a0 : m 7 0 n 0 = S 33 (4 * n) := h4 8 (by omega) (by omega)
  subst hn
  rw [show (4 * (n : Int)).toNat = 4 * n by omega, Int.toNat_natCast]
  obtain ⟨g1, g2, g3, g4⟩ := pay_set (p := n) (x := 0) (v := y) hI hA hS (by omega)
  exact ⟨g1, g2, a0, g3, g4⟩
theorem s_set : Sim_set := by
  intro d t v hd ht hv
  refine simC fun m S hI hA hS hO => ?_
  have e0 : m 1 0 0 1 = S 29 0 := hA.1.1
  unfold setR setM nsetR nsetS
  rw [e0]
  by_cases c1 : ¬ ((0 ≤ d ∧ d ≤ S 29 0 - 1) ∧ (0 ≤ t ∧ t ≤ 5))
  · simp only [if_pos c1]; exact ⟨hI, fun _ _ => trivial, trivial, hS, hA⟩
  simp only [if_neg c1]
  obtain ⟨n, hn⟩ : ∃ n : Nat, d = n := ⟨d.toNat, by omega⟩
  have h4 := hA.1.2.2.1 n (show (n : Int) < m 1 0 0 1 by omega)
  subst hn
  rw [show (8 * (n : Int) + 4).toNat = 8 * n + 4 by omega, show (8 * (n : Int) + 5).toNat = 8 * n + 5 by omega, show (8 * (n : Int) + 6).toNat = 8 * n + 6 by omega, show (8 * (n : Int) + 7).toNat = 8 * n + 7 by omega, show (8 * (n : Int) + 3).toNat = 8 * n + 3 by omega, show (8 * (n : Int) + 2).toNat = 8 * n + 2 by omega, Int.toNat_natCast]
  have key : ∀ x : Nat, ∀ g : Nat, (g < 8) → bk m 0 g n = m 6 0 n x → bkM S g n = S 31 (8 * n + g) → (((x = 0 ∧ g = 4 ∨ x = 2 ∧ g = 6) ∧ 0 ≤ v ∧ v ≤ 1) ∨ (x = 1 ∧ g = 5 ∧ -1 ≤ v ∧ v ≤ 5) ∨ ((x = 3 ∧ g = 7 ∨ x = 5 ∧ g = 2) ∧ 0 ≤ v ∧ v ≤ 299) ∨ (x = 4 ∧ g = 3 ∧ 0 ≤ v ∧ v ≤ 99)) → Inv (up m 6 0 n x v) ∧ (∀ k, 29 ≤ k → up m 6 0 n x v k = m k) ∧ m 6 0 n x = S 31 (8 * n + g) ∧ InvS kM (upT S 31 (8 * n + g) v) ∧ RlA (up m 6 0 n x v) (upT S 31 (8 * n + g) v) := by
    intro x g hg e1 e2 hx
    obtain ⟨g1, g2, g3, g4⟩ := debt_set (d := n) (x := x) (g := g) (v := v) hI hA hS hx
    exact ⟨g1, g2, by rw [← e1, ← e2]; exact h4 g hg, g3, g4⟩
  rcases (show t = 0 ∨ t = 1 ∨ t = 2 ∨ t = 3 ∨ t = 4 ∨ t = 5 by omega) with rfl | rfl | rfl | rfl | rfl | rfl
  · by_cases c2 : 0 ≤ v ∧ v ≤ 1
    · simp [leT, moT, c2]; exact key 0 4 (by omega) rfl rfl (by omega)
    · simp [leT, moT, c2]; exact ⟨hI, hS, hA⟩
  · by_cases c2 : -1 ≤ v ∧ v ≤ 5
    · simp [leT, moT, c2]; exact key 1 5 (by omega) rfl rfl (by omega)
    · simp [leT, moT, c2]; exact ⟨hI, hS, hA⟩
  · by_cases c2 : 0 ≤ v ∧ v ≤ 1
    · simp [leT, moT, c2]; exact key 2 6 (by omega) rfl rfl (by omega)
    · simp [leT, moT, c2]; exact ⟨hI, hS, hA⟩
  · by_cases c2 : 0 ≤ v ∧ v ≤ 299
    · simp [leT, moT, c2]; exact key 3 7 (by omega) rfl rfl (by omega)
    · simp [leT, moT, c2]; exact ⟨hI, hS, hA⟩
  · by_cases c2 : 0 ≤ v ∧ v ≤ 99
    · simp [leT, moT, c2]; exact key 4 3 (by omega) rfl rfl (by omega)
    · simp [leT, moT, c2]; exact ⟨hI, hS, hA⟩
  · by_cases c2 : 0 ≤ v ∧ v ≤ 299
    · simp [leT, moT, c2]; exact key 5 2 (by omega) rfl rfl (by omega)
    · simp [leT, moT, c2]; exact ⟨hI, hS, hA⟩
