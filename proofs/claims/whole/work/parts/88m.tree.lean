def vd (n c : Nat) (W : Nat → Int) : Prop := ∀ i, i < n → -1 ≤ W i ∧ W i < c
noncomputable def oW (S : PS) (l n Y : Nat) (W : Nat → Int) : Int := owX (SW S n W) l Y
theorem oW_cg {S : PS} {l n Y : Nat} (W W' : Nat → Int) (h : ∀ i, i < n → W i = W' i) : oW S l n Y W = oW S l n Y W' := by
  have e : SW S n W = SW S n W' := by
    funext k x
    unfold SW
    by_cases c : k = 33 ∧ x % 4 = 2 ∧ x / 4 < n
    · rw [if_pos c, if_pos c, h _ c.2.2]
    · rw [if_neg c, if_neg c]
  unfold oW
  rw [e]
theorem bW_mem {a b : Mem} {x n : Nat} {W : Nat → Int} (h1 : b 1 x = a 1 x) (h5 : b 5 x = a 5 x) (h6 : b 6 x = a 6 x) (h7 : ∀ i s, n ≤ i ∨ s ≠ 2 → b 7 x i s = a 7 x i s) : bW (bk b x) n W = bW (bk a x) n W := by
  funext f d
  by_cases e : f = 10
  · subst e
    rw [bW_10, bW_10]
    by_cases c : d < n
    · rw [if_pos c, if_pos c]
    · rw [if_neg c, if_neg c]
      exact h7 d 2 (Or.inl (by omega))
  · rw [bW_f f e, bW_f f e]
    match f, e with
    | 0, _ => show b 5 x d 0 = a 5 x d 0; rw [h5]
    | 1, _ => show b 5 x d 1 = a 5 x d 1; rw [h5]
    | 2, _ => show b 6 x d 5 = a 6 x d 5; rw [h6]
    | 3, _ => show b 6 x d 4 = a 6 x d 4; rw [h6]
    | 4, _ => show b 6 x d 0 = a 6 x d 0; rw [h6]
    | 5, _ => show b 6 x d 1 = a 6 x d 1; rw [h6]
    | 6, _ => show b 6 x d 2 = a 6 x d 2; rw [h6]
    | 7, _ => show b 6 x d 3 = a 6 x d 3; rw [h6]
    | 8, _ => exact h7 d 0 (Or.inr (by omega))
    | 9, _ => exact h7 d 1 (Or.inr (by omega))
    | 11, _ => exact h7 d 3 (Or.inr (by omega))
    | 12, _ => show b 1 x 0 1 = a 1 x 0 1; rw [h1]
    | 13, _ => show b 1 x 0 3 = a 1 x 0 3; rw [h1]
    | (f + 14), _ => rfl
/-- a node of the search: courses from j on, the words Ws that lead there -/
def BX (S : PS) (l n : Nat) (m : Mem) (j : Nat) : Prop := ∀ i, j ≤ i → i ≤ 5 → ∀ W, CR (bW (bk m (2 + i)) n W) (lw m (16 + i)) (SW S n W) l
def TV (S : PS) (n Y c : Nat) (m : Mem) : Prop := ∀ i, i < n → -1 ≤ m 22 0 0 i ∧ m 22 0 0 i < c ∧ ((Y : Int) < S 33 (4 * i) → m 22 0 0 i = -1)
def ND (S : PS) (l n P Y c : Nat) (m : Mem) (j r : Nat) (Ws : (Nat → Int) → Prop) : Prop :=
  (m 20 0 0 5 = n ∧ m 20 0 0 6 = Y) ∧ BX S l n m j ∧ TV S n Y c m ∧ (∀ W, vd n c W → (∀ i, i < n → ¬ RemP (bk m (2 + j)) (cs m j) i → W i = m 22 0 0 i) → Ws W) ∧ (∀ W, Ws W → vd n c W ∧ ∀ i, i < n → ¬ RemP (bk m (2 + j)) (cs m j) i → m 22 0 0 i = W i ∨ m 22 0 0 i = -1) ∧ (∀ W, Ws W → NF (bW (bk m (2 + j)) n W) (SW S n W) (cs m j) l P Y c (oW S l n Y W)) ∧ cnP (RemP (bk m (2 + j)) (cs m j)) n ≤ r
/-- what a part of the search does -/
def PO (S : PS) (l n Y c : Nat) (R : Nat → Prop) (m m' : Mem) (Ws : (Nat → Int) → Prop) : Prop := ∃ U : (Nat → Int) → Prop, (∀ W, U W → vd n c W) ∧ (∀ W, Ws W → ∃ W', U W' ∧ oW S l n Y W' = oW S l n Y W ∧ ∀ i, i < n → W' i = W i ∨ W' i = -1) ∧ (∀ V, BSF (oW S l n Y) n m V → BSF (oW S l n Y) n m' (fun W => V W ∨ U W)) ∧ (∀ i, i < n → ¬ R i ∨ (Y : Int) < S 33 (4 * i) → m' 22 0 0 i = m 22 0 0 i) ∧ (∀ i, i < n → -1 ≤ m' 22 0 0 i ∧ m' 22 0 0 i < c) ∧ ∀ b i x, n ≤ i ∨ x ≠ 2 → m' 7 b i x = m 7 b i x
theorem BX.cnt {S : PS} {l n : Nat} {m : Mem} {j i : Nat} (h : BX S l n m j) (h1 : j ≤ i) (h2 : i ≤ 5) : bk m (2 + i) 12 0 = S 29 0 ∧ bk m (2 + i) 13 0 = S 29 2 := by
  have a : bW (bk m (2 + i)) n (fun _ => 0) 12 0 = SW S n (fun _ => 0) 29 0 := (h i h1 h2 (fun _ => 0)).1.1
  have b : bW (bk m (2 + i)) n (fun _ => 0) 13 0 = SW S n (fun _ => 0) 29 2 := (h i h1 h2 (fun _ => 0)).1.2.1
  rw [bW_f 12 (by omega), SW_k (by omega)] at a
  rw [bW_f 13 (by omega), SW_k (by omega)] at b
  exact ⟨a, b⟩
theorem BX.day {S : PS} {l n : Nat} {m : Mem} {j i q : Nat} (h : BX S l n m j) (h1 : j ≤ i) (h2 : i ≤ 5) (hq : (q : Int) < S 29 2) : bk m (2 + i) 8 q = S 33 (4 * q) := by
  have c := (h.cnt h1 h2).2
  have a : bW (bk m (2 + i)) n (fun _ => 0) 8 q = SW S n (fun _ => 0) 33 (4 * q) := (h i h1 h2 (fun _ => 0)).1.2.2.2.1 q (by rw [bW_f 13 (by omega), c]; exact hq) 8 (by omega) (by omega)
  rw [bW_f 8 (by omega), SW_x (by omega)] at a
  exact a
theorem BX.mem {S : PS} {l n : Nat} {a b : Mem} {j : Nat} (h : BX S l n a j) (hk : ∀ k, k = 1 ∨ k = 5 ∨ k = 6 ∨ k = 8 ∨ k = 9 → b k = a k) (h7 : ∀ x i s, n ≤ i ∨ s ≠ 2 → b 7 x i s = a 7 x i s) : BX S l n b j := by
  intro i h1 h2 W
  rw [bW_mem (a := a) (b := b) (by rw [hk 1 (by omega)]) (by rw [hk 5 (by omega)]) (by rw [hk 6 (by omega)]) (h7 _), lw_congr (m := a) (m' := b) (q := 16 + i) (q' := 16 + i) (by rw [hk 8 (by omega)]) (by rw [hk 9 (by omega)])]
  exact h i h1 h2 W
/-- a leaf of the search -/
theorem leaf_po {S : PS} {l n P Y c : Nat} {m : Mem} {j r : Nat} {Ws : (Nat → Int) → Prop} (hY : Y ≤ 299) (hP : S 29 2 = P) (hc : S 29 0 = c) (hP2 : P ≤ 12) (hn : n ≤ P) (hn3 : n ≤ 3) (hj : j ≤ 5) (h : ND S l n P Y c m j r Ws) (hA : (∀ W, Ws W → NF (bW (bk m (2 + j)) n W) (SW S n W) (tfA m j) l P Y c (oW S l n Y W)) ∧ ∀ i, i < n → (RemP (bk m (2 + j)) (tfA m j) i ↔ RemP (bk m (2 + j)) (cs m j) i)) (hx : tfN m j < 0) : PO S l n Y c (RemP (bk m (2 + j)) (cs m j)) m (tfE m j) Ws := by
  obtain ⟨⟨n1, n2⟩, n3, n4, n5, n6, n7, n8⟩ := h
  obtain ⟨c12, c13⟩ := n3.cnt (Nat.le_refl j) hj
  have hx2 : nextS (bk m (2 + j)) (tfA m j) Y < 0 := by
    unfold tfN at hx
    rw [n2] at hx
    exact hx
  have hlate : ∀ i, i < n → RemP (bk m (2 + j)) (cs m j) i → m 22 0 0 i = -1 := fun i hi hr => by
    have := next_neg hx2 (by rw [c13, hP]; omega) ((hA.2 i hi).mpr hr)
    rw [n3.day (Nat.le_refl j) hj (by rw [hP]; omega)] at this
    exact (n4 i hi).2.2 this
  have hvt : vd n c (m 22 0 0) := fun i hi => ⟨(n4 i hi).1, (n4 i hi).2.1⟩
  have hWt : Ws (m 22 0 0) := n5 _ hvt (fun i _ _ => rfl)
  have val : ∀ W, Ws W → owedL (bk m (2 + j)) (runToS (bk m (2 + j)) (tfA m j) Y) c = oW S l n Y W := fun W hW => leaf_ow hY (c13.trans hP) hP2 (c12.trans hc) (n3 j (Nat.le_refl j) hj W) (hA.1 W hW) hx2
  have e22 : ∀ T, wrC m j T 22 0 0 = m 22 0 0 := fun T => wrC_d rfl
  have f22 : (tfE m j) 22 0 0 = m 22 0 0 := by
    unfold tfE weM
    split
    · rw [cpS_o (by omega), up_o (by omega), up_o (by omega)]
      exact wrC_d rfl
    · exact wrC_d rfl
  have f7 : ∀ b i, (tfE m j) 7 b i = m 7 b i := fun b i => by
    unfold tfE weM
    split
    · rw [cpS_o (by omega), up_o (by omega), up_o (by omega)]
      exact wrC_d rfl
    · exact wrC_d rfl
  refine ⟨fun W => ∀ i, i < n → W i = m 22 0 0 i, fun W hW i hi => by rw [hW i hi]; exact hvt i hi, fun W hW => ?_, fun V hV => ?_, fun i hi _ => by rw [f22], fun i hi => by rw [f22]; exact hvt i hi, fun b i x _ => by rw [f7]⟩
  · refine ⟨m 22 0 0, fun _ _ => rfl, (val _ hWt).symm.trans (val W hW), fun i hi => ?_⟩
    by_cases hr : RemP (bk m (2 + j)) (cs m j) i
    · exact Or.inr (hlate i hi hr)
    · exact (n6 W hW).2 i hi hr
  · have e12 : (m 1 (2 + j) 0 1).toNat = c := by
      have : m 1 (2 + j) 0 1 = S 29 0 := c12
      rw [this, hc, Int.toNat_natCast]
    have et : tfR m j (m 20 0 0 6) = runToS (bk m (2 + j)) (tfA m j) Y := by unfold tfR; rw [n2]
    unfold tfE
    rw [e12, et]
    have w := we_bsf (o := oW S l n Y) (n := n) (m := wrC m j (runToS (bk m (2 + j)) (tfA m j) Y)) (V := V) (ow := owedL (bk m (2 + j)) (runToS (bk m (2 + j)) (tfA m j) Y) c) (by rw [wrC_d rfl]; exact n1) hn3 (fun W W' hh => oW_cg W W' hh) (by rw [e22]; exact val _ hWt) (hV.c (wrC_d rfl) (wrC_d rfl))
    rw [e22] at w
    exact w
