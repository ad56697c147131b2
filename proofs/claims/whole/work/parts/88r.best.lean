theorem fwF_inv {D : PS} (h : InvS kM D) : ∀ n, InvS kM (fwF D n)
  | 0 => h
  | n + 1 => (fwF_inv h n).up (by
    have q : -1 ≤ D 52 n ∧ D 52 n ≤ 7 := h 52 n rfl
    show -1 ≤ _ ∧ _ ≤ (9999 : Int)
    omega)
/-- class and model find the same words -/
theorem find_sim {m : Mem} {S : PS} {l n P Y c : Nat} (hI : Inv m) (hA : RlA m S) (hS : InvS kM S) (hO : mOK S) (hl : l < 2) (hn1 : 1 ≤ n) (hn3 : n ≤ 3) (hP : S 29 2 = P) (hc : S 29 0 = c) (hn : n ≤ P) (hY : Y ≤ 299) : Inv (findM m l n Y) ∧ Core m (findM m l n Y) ∧ (∀ k, k < n → findM m l n Y 21 0 0 k = fwS S l n Y 50 k) ∧ findM m l n Y 20 0 0 1 = fwS S l n Y 29 21 ∧ InvS kM (fwS S l n Y) ∧ RlA m (fwS S l n Y) := by
  have b0 : 0 ≤ S 29 0 ∧ S 29 0 ≤ 8 := hS 29 0 rfl
  have b2 : 0 ≤ S 29 2 ∧ S 29 2 ≤ 12 := hS 29 2 rfl
  obtain ⟨o1, o2, o3⟩ := findM_ok (ln := l) (n := (n : Int)) (y := (Y : Int)) hI (by omega) (by omega)
  obtain ⟨nd, hz, hcore⟩ := find_nd hI hA hS hO hl hn3 hP hc hn hY
  have hTF := fiM_tf (ln := l) (n := (n : Int)) (y := (Y : Int)) hI (by omega) (by omega)
  obtain ⟨U, u1, u2, u3, -, -, -⟩ := tree_po (l := l) hY hP hc (by omega) (by omega) hn hn3 3 (fiM m l n Y) (vd n c) (by omega) hTF nd
  have hC2 : Core (fiM m l n Y) (findM m l n Y) := fun k j i h => by
    unfold core at h
    by_cases e1 : k = 1 ∨ k = 5 ∨ k = 6 ∨ k = 7
    · rw [if_pos e1] at h
      have hj : j < 2 := by simpa using h
      by_cases e7 : k = 7
      · subst e7; exact o3.2.1 j i (by omega)
      · rw [o3.2.2.1 k (by omega) e7]
    · rw [if_neg e1] at h
      by_cases e2 : k = 8 ∨ k = 9
      · rw [o3.2.2.1 k (by omega) (by omega)]
      · rw [if_neg e2] at h
        have hk : k < 10 ∨ 23 < k := by simpa using h
        rcases hk with hk | hk
        · rw [o3.2.2.1 k hk (by omega)]
        · rw [o3.2.2.2.1 k (by omega)]
  have hbs := u3 (fun _ => False) (Or.inl ⟨hz, fun _ h => h⟩)
  have hfm : tfM 3 (fiM m l n Y) = findM m l n Y := rfl
  rw [hfm] at hbs
  have hv0 : vd n c (fun _ => -1) := fun i hi => ⟨by show (-1 : Int) ≤ -1; omega, by show (-1 : Int) < c; omega⟩
  obtain ⟨Wx, hWx, -, -⟩ := u2 _ hv0
  obtain ⟨M, hM⟩ : ∃ M, M = findM m l n Y := ⟨_, rfl⟩
  rw [← hM] at hbs o1 hC2 ⊢
  have hbest : U (M 21 0 0) ∧ M 20 0 0 1 = oW S l n Y (M 21 0 0) ∧ ∀ W, U W → M 20 0 0 1 < oW S l n Y W ∨ (M 20 0 0 1 = oW S l n Y W ∧ ¬ LX n W (M 21 0 0)) := by
    rcases hbs with ⟨h1, h2⟩ | ⟨h1, h2, h3, h4⟩
    · exact absurd (Or.inr hWx) (h2 Wx)
    · exact ⟨h2.resolve_left (fun z => z), h3, fun W hW => h4 W (Or.inr hW)⟩
  obtain ⟨w1, w2, w3⟩ := hbest
  have hall : ∀ W, vd n c W → M 20 0 0 1 < oW S l n Y W ∨ (M 20 0 0 1 = oW S l n Y W ∧ ¬ LX n W (M 21 0 0)) := fun W hW => by
    obtain ⟨W', p1, p2, p3⟩ := u2 W hW
    rcases w3 W' p1 with h | ⟨h, h'⟩
    · left; omega
    · right
      refine ⟨by omega, fun hx => h' (LX.le (fun i hi => ?_) hx)⟩
      have := hW i hi
      rcases p3 i hi with e | e <;> omega
  -- the model's side
  have hC0 := st_CR (j := 0) hI hA hl
  obtain ⟨z1, z2, z3, z4, z5⟩ := st_hy (j := 0) (ln := l) hI
  have hval : ∀ X W, vd n c W → InvS kM X → mOK X → X 31 = S 31 → X 33 = SW S n W 33 → X 29 0 = S 29 0 → X 29 2 = S 29 2 → X 36 = S 36 → X 37 = S 37 → owX X l Y = oW S l n Y W := fun X W hW hX hOX e31 e33 e0 e2 e36 e37 => by
    have hCw := hC0.bw (n := n) (W := W)
    have hCx : CR (bW (bk (stM m 0 0 l) (2 + 0)) n W) (lw (stM m 0 0 l) (16 + 0)) X l := hCw.ks (by rw [e31, SW_k (by omega)]) e33 (by rw [e0, SW_k (by omega)]) (by rw [e2, SW_k (by omega)]) (by rw [e36, SW_k (by omega)]) (by rw [e37, SW_k (by omega)])
    exact owX_cg (by omega) hCx hCw (z1.bw (fun i hi => by have := hW i hi; omega)) (by rw [bW_f 13 (by omega)]; exact z2) hX hOX (SW_inv hS (by omega) hW) (SW_ok hO (by omega) hW) z3 (fun d => by rw [bW_f 0 (by omega)]; exact z4 d) (fun d => by rw [bW_f 1 (by omega)]; exact z5 d)
  have hB0 : MF S n (fwB S n) := by
    have i1 := fwA_inv hS hO n (by omega)
    have k1 : ∀ k, k ≠ 29 → fwB S n k = fwA S n k := fun k hk => upT_kk hk
    have k29 : ∀ x, x ≠ 21 → fwB S n 29 x = S 29 x := fun x hx => by
      unfold fwB
      rw [upT_x hx, fwA_k (by omega)]
    have e21 : fwB S n 29 21 = -1 := upT_self
    refine ⟨⟨i1.up (by show True; trivial), hO.ks (by rw [k1 31 (by omega), fwA_k (by omega)]) (by rw [k1 33 (by omega), fwA_k (by omega)]) (k29 0 (by omega)) (k29 2 (by omega)), k29 0 (by omega), k29 2 (by omega), by rw [e21]; omega, by rw [e21]; omega⟩, fun k a1 a2 a3 a4 a5 => by rw [k1 k a2, fwA_k a5], fun x _ hx => k29 x hx, fun x _ => by rw [k1 33 (by omega), fwA_k (by omega)], fun k hk => by rw [k1 52 (by omega)]; exact fwA_52 n k hk⟩
  obtain ⟨b, hb⟩ : ∃ b : Int, b = (c : Int) + 1 := ⟨_, rfl⟩
  have hpw := pow_bd (b := b) (by omega) n hn3
  obtain ⟨g1, g2⟩ := fwL_bm hb (by omega) hY (by omega) hS hO hval (b ^ n).toNat 0 (fwB S n) hB0 (Or.inl ⟨rfl, upT_self⟩)
  rw [Nat.zero_add] at g2
  have ef : fwS S l n Y = fwF (fwL l n Y b (b ^ n).toNat 0 (fwB S n)) n := by
    unfold fwS
    rw [hc, ← hb]
  obtain ⟨D, hD⟩ : ∃ D, D = fwL l n Y b (b ^ n).toNat 0 (fwB S n) := ⟨_, rfl⟩
  rw [← hD] at g1 g2 ef
  obtain ⟨f1, f2, f3, f4, f5⟩ := g1
  have F33 : fwF D n 33 = S 33 := funext fun x => fwF_33 f4 f5 n (Nat.le_refl n) x (by omega)
  have Fk : ∀ k, k ≠ 33 → fwF D n k = D k := fun k hk => fwF_k hk n
  rcases g2 with ⟨h1, -⟩ | ⟨r0, q1, q2, q3, q4⟩
  · omega
  have hvM := dg_vd hb n (r0 : Int)
  obtain ⟨rC, c1, c2⟩ := dg_ex hb n (u1 _ w1)
  have eoC : oW S l n Y (dgW b n rC) = oW S l n Y (M 21 0 0) := oW_cg _ _ c2
  have k1 := q4 rC (by omega)
  have k2 := hall _ hvM
  have hr : r0 = rC := by
    apply Classical.byContradiction
    intro hne
    have hlt : r0 < rC := by omega
    have hx := dg_lx (show 1 ≤ b by omega) n r0 rC (by omega) (by omega) c1
    have hx2 : LX n (dgW b n r0) (M 21 0 0) := hx.cg (fun _ _ => rfl) (fun i hi => (c2 i hi).symm)
    rcases k2 with k2 | ⟨-, k2⟩
    · omega
    · exact k2 hx2
  rw [ef]
  refine ⟨o1, hcore.tr hC2, fun k hk => ?_, ?_, fwF_inv f1.1 n, ?_⟩
  · rw [Fk 50 (by omega), q3 k hk, hr, c2 k hk]
  · rw [Fk 29 (by omega), q2]
    omega
  · have hk : ∀ k, (k < 39 ∨ 49 < k) → k ≠ 29 → k ≠ 33 → k ≠ 50 → k ≠ 52 → fwF D n k = S k := fun k a1 a2 a3 a4 a5 => by rw [Fk k a3]; exact f2 k a1 a2 a3 a4 a5
    have h29 : ∀ x, x ≠ 15 → x ≠ 21 → fwF D n 29 x = S 29 x := fun x a1 a2 => by rw [Fk 29 (by omega)]; exact f3 x a1 a2
    obtain ⟨ra, rb, rc, rd, re⟩ := hA
    exact ⟨ra.c rfl (bkM_congr (hk 31 (by omega) (by omega) (by omega) (by omega) (by omega)) F33 (h29 0 (by omega) (by omega)) (h29 2 (by omega) (by omega))), rb.c (fun _ _ => rfl) (hk 36 (by omega) (by omega) (by omega) (by omega) (by omega)) (hk 37 (by omega) (by omega) (by omega) (by omega) (by omega)), rc.c rfl rfl (h29 5 (by omega) (by omega)) (hk 34 (by omega) (by omega) (by omega) (by omega) (by omega)), rd.c rfl rfl (hk 56 (by omega) (by omega) (by omega) (by omega) (by omega)) (hk 57 (by omega) (by omega) (by omega) (by omega) (by omega)) (hk 58 (by omega) (by omega) (by omega) (by omega) (by omega)), re.c rfl rfl (fun _ _ => rfl) (h29 24 (by omega) (by omega)) (hk 55 (by omega) (by omega) (by omega) (by omega) (by omega))⟩
theorem s_best : Sim_best := by
  intro l n y i hl hn hy hi
  refine simQ2 fun m S hI hA hS hO => ?_
  have e1 : m 1 0 0 3 = S 29 2 := hA.1.2.1
  have b0 : 0 ≤ S 29 0 ∧ S 29 0 ≤ 8 := hS 29 0 rfl
  have b2 : 0 ≤ S 29 2 ∧ S 29 2 ≤ 12 := hS 29 2 rfl
  unfold bestR bestM nbestR nbestS
  rw [e1]
  by_cases c1 : ¬ ((0 ≤ l ∧ l ≤ 1) ∧ (1 ≤ n ∧ n ≤ 3) ∧ (0 ≤ y ∧ y ≤ 299) ∧ (0 ≤ i ∧ i ≤ n - 1))
  · simp only [if_pos c1]; exact ⟨hI, Core.rf, trivial, hS, hA⟩
  simp only [if_neg c1]
  by_cases c2 : S 29 2 < n
  · simp only [if_pos c2]; exact ⟨hI, Core.rf, trivial, hS, hA⟩
  simp only [if_neg c2]
  obtain ⟨N, rfl⟩ : ∃ N : Nat, n = N := ⟨n.toNat, by omega⟩
  obtain ⟨Y, rfl⟩ : ∃ Y : Nat, y = Y := ⟨y.toNat, by omega⟩
  obtain ⟨P, hP⟩ : ∃ P : Nat, S 29 2 = P := ⟨(S 29 2).toNat, by omega⟩
  obtain ⟨c, hc⟩ : ∃ c : Nat, S 29 0 = c := ⟨(S 29 0).toNat, by omega⟩
  rw [Int.toNat_natCast]
  obtain ⟨f1, f2, f3, f4, f5, f6⟩ := find_sim (l := l.toNat) (n := N) (Y := Y) hI hA hS hO (by omega) (by omega) (by omega) hP hc (by omega) (by omega)
  exact ⟨f1, f2, f3 i.toNat (by omega), f5, f6⟩
theorem s_least : Sim_least := by
  intro l n y hl hn hy
  refine simQ2 fun m S hI hA hS hO => ?_
  have e1 : m 1 0 0 3 = S 29 2 := hA.1.2.1
  have b0 : 0 ≤ S 29 0 ∧ S 29 0 ≤ 8 := hS 29 0 rfl
  have b2 : 0 ≤ S 29 2 ∧ S 29 2 ≤ 12 := hS 29 2 rfl
  unfold leastR leastM nleastR nleastS
  rw [e1]
  by_cases c1 : ¬ ((0 ≤ l ∧ l ≤ 1) ∧ (1 ≤ n ∧ n ≤ 3) ∧ (0 ≤ y ∧ y ≤ 299))
  · simp only [if_pos c1]; exact ⟨hI, Core.rf, trivial, hS, hA⟩
  simp only [if_neg c1]
  by_cases c2 : S 29 2 < n
  · simp only [if_pos c2]; exact ⟨hI, Core.rf, trivial, hS, hA⟩
  simp only [if_neg c2]
  obtain ⟨N, rfl⟩ : ∃ N : Nat, n = N := ⟨n.toNat, by omega⟩
  obtain ⟨Y, rfl⟩ : ∃ Y : Nat, y = Y := ⟨y.toNat, by omega⟩
  obtain ⟨P, hP⟩ : ∃ P : Nat, S 29 2 = P := ⟨(S 29 2).toNat, by omega⟩
  obtain ⟨c, hc⟩ : ∃ c : Nat, S 29 0 = c := ⟨(S 29 0).toNat, by omega⟩
  rw [Int.toNat_natCast]
  obtain ⟨f1, f2, f3, f4, f5, f6⟩ := find_sim (l := l.toNat) (n := N) (Y := Y) hI hA hS hO (by omega) (by omega) (by omega) hP hc (by omega) (by omega)
  exact ⟨f1, f2, f4, f5, f6⟩
