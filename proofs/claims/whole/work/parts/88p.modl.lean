/-- the words of row r, the first payment's first -/
def dgW (b : Int) : Nat → Int → Nat → Int
  | 0, _, _ => -1
  | k + 1, r, i => if i = k then r % b - 1 else dgW b k (r / b) i
theorem fwW_SW {b : Int} : ∀ (n : Nat) (r : Int) (D : PS), fwW b n r D = SW D n (dgW b n r)
  | 0, r, D => by
    funext k x
    unfold fwW SW
    rw [if_neg (by omega)]
  | n + 1, r, D => by
    rw [fwW, fwW_SW n]
    funext k x
    unfold SW
    by_cases c : k = 33 ∧ x % 4 = 2 ∧ x / 4 < n
    · rw [if_pos c, if_pos ⟨c.1, c.2.1, by omega⟩, dgW, if_neg (by omega)]
    · rw [if_neg c]
      by_cases c2 : k = 33 ∧ x % 4 = 2 ∧ x / 4 < n + 1
      · have e : x = 4 * n + 2 := by omega
        rw [if_pos c2, c2.1, e, upT_self, dgW, if_pos (by omega)]
      · rw [if_neg c2]
        unfold upT
        rw [if_neg (by omega)]
theorem dg_vd {b : Int} {c : Nat} (hb : b = (c : Int) + 1) : ∀ (n : Nat) (r : Int), vd n c (dgW b n r)
  | 0, r => fun i hi => by omega
  | n + 1, r => fun i hi => by
    have e1 := Int.emod_nonneg r (show b ≠ 0 by omega)
    have e2 := Int.emod_lt_of_pos r (show 0 < b by omega)
    unfold dgW
    split
    · omega
    · exact dg_vd hb n (r / b) i (by omega)
theorem dg_ex {b : Int} {c : Nat} (hb : b = (c : Int) + 1) {W : Nat → Int} : ∀ n : Nat, vd n c W → ∃ r : Nat, (r : Int) < b ^ n ∧ ∀ i, i < n → dgW b n r i = W i
  | 0, _ => ⟨0, by simp, fun i hi => by omega⟩
  | n + 1, h => by
    obtain ⟨r, h1, h2⟩ := dg_ex hb n (fun i hi => h i (by omega))
    have hw := h n (by omega)
    have hm : (r : Int) * b + b ≤ b ^ (n + 1) := by
      have := Int.mul_le_mul_of_nonneg_right (show (r : Int) + 1 ≤ b ^ n by omega) (show 0 ≤ b by omega)
      rw [Int.add_mul, Int.one_mul] at this
      rw [Int.pow_succ]
      exact this
    have h0 : 0 ≤ (r : Int) * b := Int.mul_nonneg (by omega) (by omega)
    have en' : (((r : Int) * b + (W n + 1)).toNat : Int) = (W n + 1) + (r : Int) * b := by omega
    refine ⟨((r : Int) * b + (W n + 1)).toNat, by omega, fun i hi => ?_⟩
    unfold dgW
    rw [en', Int.add_mul_emod_self_right, Int.add_mul_ediv_right _ _ (show b ≠ 0 by omega), Int.emod_eq_of_lt (by omega) (by omega), Int.ediv_eq_zero_of_lt (by omega) (by omega), Int.zero_add]
    by_cases e : i = n
    · rw [if_pos e, e]; omega
    · rw [if_neg e]; exact h2 i (by omega)
theorem dg_lx {b : Int} (hb : 1 ≤ b) : ∀ (n : Nat) (r r' : Int), 0 ≤ r → r < r' → r' < b ^ n → LX n (dgW b n r) (dgW b n r')
  | 0, r, r', h1, h2, h3 => by
    rw [Int.pow_zero] at h3
    omega
  | n + 1, r, r', h1, h2, h3 => by
    have q1 : r / b ≤ r' / b := Int.ediv_le_ediv (by omega) (by omega)
    have q2 : r' / b < b ^ n := Int.ediv_lt_of_lt_mul (by omega) (by rw [Int.pow_succ] at h3; exact h3)
    have q3 : 0 ≤ r / b := Int.ediv_nonneg h1 (by omega)
    by_cases c : r / b < r' / b
    · obtain ⟨k, k1, k2, k3⟩ := dg_lx hb n (r / b) (r' / b) q3 c q2
      refine ⟨k, by omega, fun j hj => ?_, ?_⟩
      · unfold dgW
        rw [if_neg (by omega), if_neg (by omega)]
        exact k2 j hj
      · unfold dgW
        rw [if_neg (by omega), if_neg (by omega)]
        exact k3
    · have e : r / b = r' / b := by omega
      have m1 := Int.emod_add_mul_ediv r b
      have m2 := Int.emod_add_mul_ediv r' b
      rw [← e] at m2
      refine ⟨n, by omega, fun j hj => ?_, ?_⟩
      · unfold dgW
        rw [if_neg (by omega), if_neg (by omega), e]
      · unfold dgW
        rw [if_pos rfl, if_pos rfl]
        omega
theorem CR.ks {β L S D : PS} {l : Nat} (h : CR β L S l) (h31 : D 31 = S 31) (h33 : D 33 = S 33) (h0 : D 29 0 = S 29 0) (h2 : D 29 2 = S 29 2) (h36 : D 36 = S 36) (h37 : D 37 = S 37) : CR β L D l := by
  unfold CR
  rw [bkM_congr (S := S) h31 h33 h0 h2, h36, h37]
  exact h
/-- what is owed is the same for models on the same book -/
theorem owX_cg {β L X X' T0 : PS} {l : Nat} {y : Int} (hy : 0 ≤ y ∧ y ≤ 299) (hC : CR β L X l) (hC' : CR β L X' l) (hR : PyR β) (h13 : β 13 0 ≤ 12) (hX : InvS kM X) (hO : mOK X) (hX' : InvS kM X') (hO' : mOK X') (hT : InvS kC T0) (hw : ∀ d, 0 ≤ β 0 d ∧ β 0 d ≤ 9999) (h1 : ∀ d, 0 ≤ β 1 d) : owX X l y = owX X' l y := by
  have g := gb_sim hy hC hR h13 hX hO hT hw h1
  have g' := gb_sim hy hC' hR h13 hX' hO' hT hw h1
  have n1 : β 12 0 = X 29 0 := hC.1.1
  have n2 : β 12 0 = X' 29 0 := hC'.1.1
  have c := hC.2.2.2.1
  have o1 := owed_eq g (β 12 0).toNat (by omega)
  have o2 := owed_eq g' (β 12 0).toNat (by omega)
  unfold owX
  rw [← n1, ← n2, ← o1, ← o2]
theorem SW_inv {S : PS} {n c : Nat} {W : Nat → Int} (hS : InvS kM S) (hc : c ≤ 8) (hW : vd n c W) : InvS kM (SW S n W) := by
  intro k x hk
  unfold SW
  split
  · rename_i h
    rw [h.1]
    have := hW (x / 4) h.2.2
    show -1 ≤ _ ∧ _ ≤ (9999 : Int)
    omega
  · exact hS k x hk
theorem SW_ok {S : PS} {n c : Nat} {W : Nat → Int} (hO : mOK S) (hc : c ≤ 8) (hW : vd n c W) : mOK (SW S n W) := by
  unfold mOK
  rw [SW_k (show 31 ≠ 33 by omega), SW_k (show 29 ≠ 33 by omega)]
  refine ⟨hO.1, fun p hp' => ?_⟩
  obtain ⟨a1, a2, a3, a4⟩ := hO.2 p hp'
  rw [SW_x (show ¬ ((4 * p) % 4 = 2 ∧ (4 * p) / 4 < n) by omega), SW_x (show ¬ ((4 * p + 1) % 4 = 2 ∧ (4 * p + 1) / 4 < n) by omega), SW_x (show ¬ ((4 * p + 3) % 4 = 2 ∧ (4 * p + 3) / 4 < n) by omega)]
  refine ⟨a1, a2, ?_, a4⟩
  unfold SW
  split
  · rename_i h
    have := hW ((4 * p + 2) / 4) h.2.2
    omega
  · exact a3
/-- what the model keeps while it tries rows of words -/
def MF (S : PS) (n : Nat) (D : PS) : Prop := FW S D n ∧ (∀ k, (k < 39 ∨ 49 < k) → k ≠ 29 → k ≠ 33 → k ≠ 50 → k ≠ 52 → D k = S k) ∧ (∀ x, x ≠ 15 → x ≠ 21 → D 29 x = S 29 x) ∧ (∀ x, ¬ (x % 4 = 2 ∧ x / 4 < n) → D 33 x = S 33 x) ∧ ∀ k, k < n → D 52 k = S 33 (4 * k + 2)
theorem fwE_50 {D : PS} : ∀ n k, k < n → fwE D n 50 k = D 33 (4 * k + 2)
  | 0, k, h => by omega
  | n + 1, k, h => by
    show upT (fwE D n) 50 n (D 33 (4 * n + 2)) 50 k = _
    by_cases e : k = n
    · subst e; rw [upT_self]
    · rw [upT_x e]; exact fwE_50 n k (by omega)
theorem fwA_52 {S : PS} : ∀ n k, k < n → fwA S n 52 k = S 33 (4 * k + 2)
  | 0, k, h => by omega
  | n + 1, k, h => by
    show upT (fwA S n) 52 n (S 33 (4 * n + 2)) 52 k = _
    by_cases e : k = n
    · subst e; rw [upT_self]
    · rw [upT_x e]; exact fwA_52 n k (by omega)
theorem fwF_33 {D S : PS} {N : Nat} (h1 : ∀ x, ¬ (x % 4 = 2 ∧ x / 4 < N) → D 33 x = S 33 x) (h2 : ∀ k, k < N → D 52 k = S 33 (4 * k + 2)) : ∀ n, n ≤ N → ∀ x, ¬ (x % 4 = 2 ∧ n ≤ x / 4 ∧ x / 4 < N) → fwF D n 33 x = S 33 x
  | 0, _, x, h => h1 x (by omega)
  | n + 1, hn, x, h => by
    show upT (fwF D n) 33 (4 * n + 2) (D 52 n) 33 x = _
    by_cases e : x = 4 * n + 2
    · subst e; rw [upT_self]; exact h2 n (by omega)
    · rw [upT_x e]; exact fwF_33 h1 h2 n (by omega) x (by omega)
/-- the best of the rows tried so far -/
def BM (S : PS) (l n Y : Nat) (b : Int) (D : PS) (R : Nat) : Prop := (R = 0 ∧ D 29 21 = -1) ∨ ∃ r0 : Nat, r0 < R ∧ D 29 21 = oW S l n Y (dgW b n r0) ∧ (∀ k, k < n → D 50 k = dgW b n r0 k) ∧ ∀ r : Nat, r < R → oW S l n Y (dgW b n r0) < oW S l n Y (dgW b n r) ∨ (oW S l n Y (dgW b n r0) = oW S l n Y (dgW b n r) ∧ r0 ≤ r)
theorem fw1_bm {S D : PS} {l n c Y : Nat} {b : Int} {r : Nat} (hb : b = (c : Int) + 1) (hc : c ≤ 8) (hY : Y ≤ 299) (hn : (n : Int) ≤ S 29 2) (hS : InvS kM S) (hO : mOK S) (hval : ∀ X W, vd n c W → InvS kM X → mOK X → X 31 = S 31 → X 33 = SW S n W 33 → X 29 0 = S 29 0 → X 29 2 = S 29 2 → X 36 = S 36 → X 37 = S 37 → owX X l Y = oW S l n Y W) (hF : MF S n D) (hB : BM S l n Y b D r) : MF S n (fw1 l n Y b r D) ∧ BM S l n Y b (fw1 l n Y b r D) (r + 1) := by
  obtain ⟨f1, f2, f3, f4, f5⟩ := hF
  have f1' := fw1_ok (l := l) (y := (Y : Int)) (b := b) (r := (r : Int)) f1 (by omega) (by omega) hn
  obtain ⟨x1, x2⟩ := fwW_ok (b := b) (by omega) n (r : Int) D f1.1 f1.2.1
  have hv := dg_vd hb n (r : Int)
  have e33 : fwW b n (r : Int) D 33 = SW S n (dgW b n r) 33 := by
    rw [fwW_SW]
    funext x
    by_cases c2 : x % 4 = 2 ∧ x / 4 < n
    · unfold SW
      rw [if_pos ⟨rfl, c2⟩, if_pos ⟨rfl, c2⟩]
    · rw [SW_x c2, SW_x c2]; exact f4 x c2
  have ek : ∀ k, k ≠ 33 → fwW b n (r : Int) D k = D k := fun k hk => fwW_k hk n _ _
  have hm := md_ok (l := l) x1 x2 ((Y : Int) + 1).toNat (by omega)
  have ho : fwO l n Y b r D = oW S l n Y (dgW b n r) := hval _ _ hv x1 x2 (by rw [ek 31 (by omega)]; exact f2 31 (by omega) (by omega) (by omega) (by omega) (by omega)) e33 (by rw [ek 29 (by omega)]; exact f3 0 (by omega) (by omega)) (by rw [ek 29 (by omega)]; exact f3 2 (by omega) (by omega)) (by rw [ek 36 (by omega)]; exact f2 36 (by omega) (by omega) (by omega) (by omega) (by omega)) (by rw [ek 37 (by omega)]; exact f2 37 (by omega) (by omega) (by omega) (by omega) (by omega))
  have hob : 0 ≤ oW S l n Y (dgW b n r) := by
    rw [← ho]
    exact (owX_bd (l := l) x1 x2 (by omega)).1
  obtain ⟨G, hG⟩ : ∃ G, G = fwG l n Y b r D := ⟨_, rfl⟩
  have gk : ∀ k, (k < 39 ∨ 49 < k) → k ≠ 29 → k ≠ 33 → G k = D k := fun k h1 h2 h3 => by
    rw [hG]
    unfold fwG
    rw [hm.2.2.2.1 k h1 h2, ek k h3]
  have g33 : G 33 = SW S n (dgW b n r) 33 := by
    rw [hG]
    unfold fwG
    rw [hm.2.2.2.1 33 (by omega) (by omega), e33]
  have g29 : ∀ x, x ≠ 15 → G 29 x = D 29 x := fun x hx => by
    rw [hG]
    unfold fwG
    rw [hm.2.2.2.2 x hx, ek 29 (by omega)]
  have g33w : ∀ k, k < n → G 33 (4 * k + 2) = dgW b n r k := fun k hk => by
    rw [g33]
    unfold SW
    rw [if_pos (by omega), show (4 * k + 2) / 4 = k by omega]
  have e1 : fw1 l n Y b r D = if D 29 21 < 0 ∨ oW S l n Y (dgW b n r) < D 29 21 then fwE (upT G 29 21 (oW S l n Y (dgW b n r))) n else G := by
    unfold fw1
    rw [← hG, ho, g29 21 (by omega)]
  have hMF : ∀ F, F = fw1 l n Y b r D → (∀ k, k ≠ 29 → k ≠ 50 → F k = G k) → (∀ x, x ≠ 21 → F 29 x = G 29 x) → MF S n F := fun F hF h1 h2 => by
    refine ⟨by rw [hF]; exact f1', fun k a1 a2 a3 a4 a5 => ?_, fun x a1 a2 => ?_, fun x a1 => ?_, fun k hk => ?_⟩
    · rw [h1 k a2 a4, gk k a1 a2 a3]; exact f2 k a1 a2 a3 a4 a5
    · rw [h2 x a2, g29 x a1]; exact f3 x a1 a2
    · rw [h1 33 (by omega) (by omega), g33, SW_x a1]
    · rw [h1 52 (by omega) (by omega), gk 52 (by omega) (by omega) (by omega)]; exact f5 k hk
  by_cases c1 : D 29 21 < 0 ∨ oW S l n Y (dgW b n r) < D 29 21
  · rw [if_pos c1] at e1
    have h50 : ∀ k, k < n → fw1 l n Y b r D 50 k = dgW b n r k := fun k hk => by
      rw [e1, fwE_50 n k hk, upT_k (by omega)]
      exact g33w k hk
    have h21 : fw1 l n Y b r D 29 21 = oW S l n Y (dgW b n r) := by
      rw [e1, fwE_k (by omega), upT_self]
    refine ⟨hMF _ rfl (fun k a1 a2 => by rw [e1, fwE_k a2, upT_kk a1]) (fun x a1 => by rw [e1, fwE_k (by omega), upT_x a1]), Or.inr ⟨r, by omega, h21, h50, fun r' hr' => ?_⟩⟩
    by_cases e : r' = r
    · subst e; exact Or.inr ⟨rfl, Nat.le_refl _⟩
    · left
      rcases hB with ⟨b1, b2⟩ | ⟨r0, b1, b2, b3, b4⟩
      · omega
      · have hx := b4 r' (by omega)
        have h0 : 0 ≤ oW S l n Y (dgW b n r0) := by
          have hv0 := dg_vd hb n (r0 : Int)
          exact (owX_bd (l := l) (SW_inv hS hc hv0) (SW_ok hO hc hv0) (show (0 : Int) ≤ Y ∧ (Y : Int) ≤ 299 by omega)).1
        omega
  · rw [if_neg c1] at e1
    have h21 : fw1 l n Y b r D 29 21 = D 29 21 := by rw [e1]; exact g29 21 (by omega)
    have h50 : fw1 l n Y b r D 50 = D 50 := by rw [e1]; exact gk 50 (by omega) (by omega) (by omega)
    refine ⟨hMF _ rfl (fun k _ _ => by rw [e1]) (fun x _ => by rw [e1]), ?_⟩
    rcases hB with ⟨b1, b2⟩ | ⟨r0, b1, b2, b3, b4⟩
    · omega
    · refine Or.inr ⟨r0, by omega, h21.trans b2, fun k hk => by rw [h50]; exact b3 k hk, fun r' hr' => ?_⟩
      by_cases e : r' = r
      · subst e; omega
      · exact b4 r' (by omega)
theorem fwL_bm {S : PS} {l n c Y : Nat} {b : Int} (hb : b = (c : Int) + 1) (hc : c ≤ 8) (hY : Y ≤ 299) (hn : (n : Int) ≤ S 29 2) (hS : InvS kM S) (hO : mOK S) (hval : ∀ X W, vd n c W → InvS kM X → mOK X → X 31 = S 31 → X 33 = SW S n W 33 → X 29 0 = S 29 0 → X 29 2 = S 29 2 → X 36 = S 36 → X 37 = S 37 → owX X l Y = oW S l n Y W) : ∀ (f r : Nat) (D : PS), MF S n D → BM S l n Y b D r → MF S n (fwL l n Y b f r D) ∧ BM S l n Y b (fwL l n Y b f r D) (r + f)
  | 0, r, D, h1, h2 => ⟨h1, h2⟩
  | f + 1, r, D, h1, h2 => by
    obtain ⟨g1, g2⟩ := fw1_bm hb hc hY hn hS hO hval h1 h2
    have i := fwL_bm hb hc hY hn hS hO hval f (r + 1) _ g1 g2
    rw [show r + 1 + f = r + (f + 1) by omega] at i
    exact i
