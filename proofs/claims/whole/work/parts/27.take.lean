def rtOK (β : PS) : Prop := ∀ d, 0 ≤ β 3 d ∧ β 3 d ≤ 99
def CB (β S : PS) : Prop := ∀ d, d < (β 12 0).toNat → S 11 d + S 12 d ≤ bnd (S 10 2).toNat
theorem runToL_k {β S : PS} {tg : Int} {k : Nat} (h : k ≠ 12) : ∀ n, runToL β S tg n k = S k
  | 0 => rfl
  | n + 1 => by
    show runOnS β (runToL β S tg n) n _ k = _
    rw [runOnS_k h, runToL_k h n]
theorem runToL_x {β S : PS} {tg : Int} : ∀ n x, n ≤ x → runToL β S tg n 12 x = S 12 x
  | 0, _, _ => rfl
  | n + 1, x, h => by
    show runOnS β (runToL β S tg n) n _ 12 x = _
    rw [runOnS_x (by omega), runToL_x n x (by omega)]
theorem runToL_inv {β S : PS} {tg : Int} (hS : InvS kC S) (hr : rtOK β) (hB : CB β S) (h1 : S 10 2 ≤ tg) (h2 : tg ≤ 299) : ∀ n, n ≤ (β 12 0).toNat → InvS kC (runToL β S tg n) ∧ ∀ d, d < n → runToL β S tg n 11 d + runToL β S tg n 12 d ≤ bnd tg.toNat
  | 0, _ => ⟨hS, fun d h => by omega⟩
  | n + 1, hn => by
    obtain ⟨i1, i2⟩ := runToL_inv hS hr hB h1 h2 n (by omega)
    have q3 : 0 ≤ S 10 2 ∧ S 10 2 ≤ 299 := hS 10 2 rfl
    have q1 : 0 ≤ runToL β S tg n 11 n ∧ runToL β S tg n 11 n ≤ 99990000 := i1 11 n rfl
    have q2 : 0 ≤ runToL β S tg n 12 n ∧ runToL β S tg n 12 n ≤ 4000000000 := i1 12 n rfl
    have hb : runToL β S tg n 11 n + runToL β S tg n 12 n ≤ bnd (S 10 2).toNat := by rw [runToL_k (by decide), runToL_x n n (Nat.le_refl _)]; exact hB n (by omega)
    have ht : (S 10 2).toNat + (tg - max (S 10 2) (β 1 n)).toNat ≤ 299 := by omega
    have hm := (bnd_mono ((S 10 2).toNat + (tg - max (S 10 2) (β 1 n)).toNat) tg.toNat (by omega)).1
    have hd := runOnS_bd (β := β) (days := tg - max (S 10 2) (β 1 n)) q1.1 q2.1 (hr n) hb ht
    refine ⟨runOnS_inv i1 (hr n) hb ht, fun d hd2 => ?_⟩
    show runOnS β (runToL β S tg n) n _ 11 d + runOnS β (runToL β S tg n) n _ 12 d ≤ _
    rw [runOnS_k (by decide)]
    by_cases he : d = n
    · subst he; omega
    · rw [runOnS_x he]
      exact i2 d (by omega)
theorem runToS_inv {β S : PS} {tg : Int} (hS : InvS kC S) (hr : rtOK β) (hB : CB β S) (h2 : tg ≤ 299) : InvS kC (runToS β S tg) ∧ CB β (runToS β S tg) := by
  unfold runToS
  split
  · exact ⟨hS, hB⟩
  · have q3 : 0 ≤ S 10 2 ∧ S 10 2 ≤ 299 := hS 10 2 rfl
    obtain ⟨i1, i2⟩ := runToL_inv hS hr hB (by omega) h2 _ (Nat.le_refl _)
    refine ⟨(i1.up (by show 0 ≤ _ ∧ _ ≤ (299 : Int); omega)).up (by show -1 ≤ _ ∧ _ ≤ (11 : Int); omega), fun d hd => ?_⟩
    simp [upT]
    exact i2 d hd
theorem runToS_k {β S : PS} {tg : Int} {k : Nat} (h : k ≠ 12 ∧ k ≠ 10) : runToS β S tg k = S k := by
  unfold runToS
  split
  · rfl
  · funext x
    rw [upT_k h.2, upT_k h.2, runToL_k h.1]
set_option maxHeartbeats 4000000 in
set_option maxRecDepth 100000 in
theorem c_runTo_loop (E : Ev) (m : Mem) (j : Nat) (S : PS) (tg : Int) (hj : j < 6) (hI : Inv m) (hS : InvS kC S) (hr : rtOK (bk m (2 + j))) (hB : CB (bk m (2 + j)) S) (htg : -1 ≤ tg ∧ tg ≤ 299) (hgt : S 10 2 < tg) (n : Nat) (hn : m 1 (2 + j) 0 1 = n) : ∀ (k : Nat) (d : Nat) (D : PS), n - d = k → d ≤ n → D = runToL (bk m (2 + j)) S tg d → T E 2 mX1_runTo 11 [some (rf E 10 j 0), some (.int (iI tg)), some (.int (iI (d : Int)))] [] (hp E (wrC m j D)) (fun r' h' => r' = none ∧ h' = hp E (wrC m j (runToS (bk m (2 + j)) S tg))) := by
  have hn8 : 0 ≤ m 1 (2 + j) 0 1 ∧ m 1 (2 + j) 0 1 ≤ 8 := hI 1 (2 + j) 0 1
  intro k
  induction k using Nat.strongRecOn with
  | ind k ih =>
    intro d D hk hdn hD
    have e10 : D 10 2 = S 10 2 := by rw [hD, runToL_k (by decide)]
    have e11 : D 11 d = S 11 d := by rw [hD, runToL_k (by decide)]
    have e12 : D 12 d = S 12 d := by rw [hD, runToL_x d d (Nat.le_refl _)]
    have q3 : 0 ≤ S 10 2 ∧ S 10 2 ≤ 299 := hS 10 2 rfl
    have hS2 : InvS kC D := by rw [hD]; exact (runToL_inv hS hr hB (by omega) htg.2 d (by show d ≤ (m 1 (2 + j) 0 1).toNat; omega)).1
    refine T.iload_n dX1_runTo_11 rfl ?_
    refine T.aload_n dX1_runTo_12 rfl ?_
    refine T.mget (v := rf E 1 (2 + j) 0) dX1_runTo_13 fo_X1_12 (ok10 (by omega)) rfl rfl ?_
    refine T.gI (z := m 1 (2 + j) 0 1) dX1_runTo_16 fo_X1_77 (ok1 (by omega)) rfl rfl rfl ?_
    have q1 : 0 ≤ m 1 (2 + j) 0 1 ∧ m 1 (2 + j) 0 1 ≤ 8 := hI 1 (2 + j) 0 1
    refine T.icmp_ge 54 dX1_runTo_19 (by unfold rg; omega) (by unfold rg; omega) (fun c2 => ?_) (fun c2 => ?_)
    · refine T.aload_n dX1_runTo_54 rfl ?_
      refine T.iload_n dX1_runTo_55 rfl ?_
      refine T.cputI dX1_runTo_56 fp_X1_25 rfl (ok10 (by omega)) rfl rfl (Nat.le_of_ble_eq_true rfl) ?_
      refine T.aload_n dX1_runTo_59 rfl ?_
      refine T.iconst dX1_runTo_60 ?_
      refine T.cputI dX1_runTo_61 fp_X1_29 rfl (ok10 (by omega)) rfl rfl (Nat.le_of_ble_eq_true rfl) ?_
      exact T.vret dX1_runTo_64 ⟨rfl, by rw [show runToS (bk m (2 + j)) S tg = upT (upT (runToL (bk m (2 + j)) S tg n) 10 2 tg) 10 3 (-1) from by unfold runToS; rw [if_neg (by omega), show ((bk m (2 + j)) 12 0).toNat = n from by show (m 1 (2 + j) 0 1).toNat = n; omega], hD, show d = n from by omega]⟩
    · refine T.aload_n dX1_runTo_22 rfl ?_
      refine T.iload_n dX1_runTo_23 rfl ?_
      refine T.iload_n dX1_runTo_24 rfl ?_
      refine T.aload_n dX1_runTo_25 rfl ?_
      refine T.gI (z := D 10 2) dX1_runTo_26 fo_X1_25 (ok10 (by omega)) rfl rfl (wrC_c rfl) ?_
      have q3 : 0 ≤ D 10 2 ∧ D 10 2 ≤ 299 := hS2 10 2 rfl
      refine T.aload_n dX1_runTo_29 rfl ?_
      refine T.mget (v := rf E 1 (2 + j) 0) dX1_runTo_30 fo_X1_12 (ok10 (by omega)) rfl rfl ?_
      refine T.mget (v := rf E 2 (2 + j) 0) dX1_runTo_33 fo_X1_80 (ok1 (by omega)) rfl rfl ?_
      refine T.iload_n dX1_runTo_36 rfl ?_
      refine T.mald (C := RX2) (x := d) dX1_runTo_37 (ok2 (by omega)) (fun _ => rfl) rfl rfl (by omega) ?_
      refine T.gI (z := m 5 (2 + j) d 1) dX1_runTo_38 fo_X1_130 (ok5 (by omega) (by omega)) rfl rfl rfl ?_
      have q4 : 0 ≤ m 5 (2 + j) d 1 ∧ m 5 (2 + j) d 1 ≤ 299 := hI 5 (2 + j) d 1
      refine T.mmax dX1_runTo_41 lmx_X1_133 (by unfold rg; omega) (by unfold rg; omega) (by decide) (Nat.le_of_ble_eq_true rfl) ?_
      refine T.isub dX1_runTo_44 ?_
      refine T.cV0 (As := [.int (iI (d : Int)), .int (iI (tg - (max (D 10 2) (m 5 (2 + j) d 1))))]) (st := []) dX1_runTo_45 lk_X1_139 (by rw [e10]; exact c_runOn E m j D d (tg - max (S 10 2) (m 5 (2 + j) d 1)) hj hI hS2 (by omega) (by omega) (S 10 2).toNat (by rw [e11, e12]; exact hB d (by show d < (m 1 (2 + j) 0 1).toNat; omega)) (by omega)) (ok10 (by omega)) rfl rfl (by decide) rfl rfl (Nat.le_of_ble_eq_true rfl) ?_
      refine T.iinc (ls' := [some (rf E 10 j 0), some (.int (iI tg)), some (.int (iI ((d : Int) + 1)))]) dX1_runTo_48 rfl rfl ?_
      refine T.goto 11 dX1_runTo_51 ?_
      exact ih (n - (d + 1)) (by omega) (d + 1) _ rfl (by omega) (by rw [hD]; rfl)
set_option maxHeartbeats 4000000 in
set_option maxRecDepth 100000 in
theorem c_runTo (E : Ev) (m : Mem) (j : Nat) (S : PS) (tg : Int) (hj : j < 6) (hI : Inv m) (hS : InvS kC S) (hr : rtOK (bk m (2 + j))) (hB : CB (bk m (2 + j)) S) (htg : -1 ≤ tg ∧ tg ≤ 299) : CT E 2 mX1_runTo [rf E 10 j 0, .int (iI tg)] (hp E (wrC m j S)) (none) (hp E (wrC m j (runToS (bk m (2 + j)) S tg))) := by
  refine CT.go okX1_runTo (Nat.le_of_ble_eq_true rfl) ?_
  show T E 2 mX1_runTo 0 [some (rf E 10 j 0), some (.int (iI tg)), none] [] (hp E (wrC m j S)) _
  have hn8 : 0 ≤ m 1 (2 + j) 0 1 ∧ m 1 (2 + j) 0 1 ≤ 8 := hI 1 (2 + j) 0 1
  refine T.iload_n dX1_runTo_0 rfl ?_
  refine T.aload_n dX1_runTo_1 rfl ?_
  refine T.gI (z := S 10 2) dX1_runTo_2 fo_X1_25 (ok10 (by omega)) rfl rfl (wrC_c rfl) ?_
  have q1 : 0 ≤ S 10 2 ∧ S 10 2 ≤ 299 := hS 10 2 rfl
  refine T.icmp_gt 9 dX1_runTo_5 (by unfold rg; omega) (by unfold rg; omega) (fun c2 => ?_) (fun c2 => ?_)
  · refine T.iconst dX1_runTo_9 ?_
    refine T.istore_n (ls' := [some (rf E 10 j 0), some (.int (iI tg)), some (.int (iI 0))]) dX1_runTo_10 rfl ?_
    exact c_runTo_loop E m j S tg hj hI hS hr hB htg (by omega) _ (Int.toNat_of_nonneg hn8.1).symm _ 0 S rfl (Nat.zero_le _) rfl
  · exact T.vret dX1_runTo_8 ⟨rfl, by unfold runToS; rw [if_pos (by omega)]⟩
set_option maxHeartbeats 4000000 in
set_option maxRecDepth 100000 in
theorem c_next_loop (E : Ev) (m : Mem) (j : Nat) (S : PS) (tg : Int) (hj : j < 6) (hI : Inv m) (hS : InvS kC S) (htg : -1 ≤ tg ∧ tg ≤ 299) (n : Nat) (hn : m 1 (2 + j) 0 3 = n) : ∀ (k : Nat) (p : Nat) (nx nd : Int), n - p = k → p ≤ n → nextL (bk m (2 + j)) S tg p = (nx, nd) → (-1 ≤ nx ∧ nx ≤ 11) → (0 ≤ nd ∧ nd ≤ 300) → T E 1 mX1_nextPayment 9 [some (rf E 10 j 0), some (.int (iI tg)), some (.int (iI nx)), some (.int (iI nd)), some (.int (iI (p : Int))), none, none] [] (hp E (wrC m j S)) (fun r' h' => r' = some (.int (iI (nextS (bk m (2 + j)) S tg))) ∧ h' = (hp E (wrC m j S))) := by
  have hn8 : 0 ≤ m 1 (2 + j) 0 3 ∧ m 1 (2 + j) 0 3 ≤ 12 := hI 1 (2 + j) 0 3
  intro k
  induction k using Nat.strongRecOn with
  | ind k ih =>
    intro p nx nd hk hpn hq h1 h2
    refine T.iload dX1_nextPayment_9 rfl ?_
    refine T.aload_n dX1_nextPayment_11 rfl ?_
    refine T.mget (v := rf E 1 (2 + j) 0) dX1_nextPayment_12 fo_X1_12 (ok10 (by omega)) rfl rfl ?_
    refine T.gI (z := m 1 (2 + j) 0 3) dX1_nextPayment_15 fo_X1_111 (ok1 (by omega)) rfl rfl rfl ?_
    have q1 : 0 ≤ m 1 (2 + j) 0 3 ∧ m 1 (2 + j) 0 3 ≤ 12 := hI 1 (2 + j) 0 3
    refine T.icmp_ge 93 dX1_nextPayment_18 (by unfold rg; omega) (by unfold rg; omega) (fun c2 => ?_) (fun c2 => ?_)
    · refine T.iload_n dX1_nextPayment_93 rfl ?_
      exact T.iret dX1_nextPayment_94 ⟨by unfold nextS; rw [show ((bk m (2 + j)) 13 0).toNat = p from by show (m 1 (2 + j) 0 3).toNat = p; omega, hq], rfl⟩
    · refine T.aload_n dX1_nextPayment_21 rfl ?_
      refine T.mget (v := rf E 1 (2 + j) 0) dX1_nextPayment_22 fo_X1_12 (ok10 (by omega)) rfl rfl ?_
      refine T.mget (v := rf E 3 (2 + j) 0) dX1_nextPayment_25 fo_X1_114 (ok1 (by omega)) rfl rfl ?_
      refine T.iload dX1_nextPayment_28 rfl ?_
      refine T.mald (C := RX4) (x := p) dX1_nextPayment_30 (ok3 (by omega)) (fun _ => rfl) rfl rfl (by omega) ?_
      refine T.gI (z := m 7 (2 + j) p 0) dX1_nextPayment_31 fo_X1_118 (ok7 (by omega) (by omega)) rfl rfl rfl ?_
      have q3 : 0 ≤ m 7 (2 + j) p 0 ∧ m 7 (2 + j) p 0 ≤ 299 := hI 7 (2 + j) p 0
      refine T.istore (ls' := [some (rf E 10 j 0), some (.int (iI tg)), some (.int (iI nx)), some (.int (iI nd)), some (.int (iI (p : Int))), some (.int (iI (m 7 (2 + j) p 0))), none]) dX1_nextPayment_34 rfl ?_
      refine T.iload dX1_nextPayment_36 rfl ?_
      refine T.aload_n dX1_nextPayment_38 rfl ?_
      refine T.gI (z := S 10 2) dX1_nextPayment_39 fo_X1_25 (ok10 (by omega)) rfl rfl (wrC_c rfl) ?_
      have q4 : 0 ≤ S 10 2 ∧ S 10 2 ≤ 299 := hS 10 2 rfl
      refine T.icmp_gt 63 dX1_nextPayment_42 (by unfold rg; omega) (by unfold rg; omega) (fun c5 => ?_) (fun c5 => ?_)
      · refine T.iconst dX1_nextPayment_63 ?_
        refine T.goto 68 dX1_nextPayment_64 ?_
        refine T.istore (ls' := [some (rf E 10 j 0), some (.int (iI tg)), some (.int (iI nx)), some (.int (iI nd)), some (.int (iI (p : Int))), some (.int (iI (m 7 (2 + j) p 0))), some (.int (iI 1))]) dX1_nextPayment_68 rfl ?_
        refine T.iload dX1_nextPayment_70 rfl ?_
        refine T.if_eq 87 dX1_nextPayment_72 (by unfold rg; omega) (fun c6 => ?_) (fun c6 => ?_)
        · refine T.iinc (ls' := [some (rf E 10 j 0), some (.int (iI tg)), some (.int (iI nx)), some (.int (iI nd)), some (.int (iI ((p : Int) + 1))), some (.int (iI (m 7 (2 + j) p 0))), some (.int (iI 1))]) dX1_nextPayment_87 rfl rfl ?_
          refine T.goto 9 dX1_nextPayment_90 ?_
          refine T.fgt (ls' := [some (rf E 10 j 0), some (.int (iI tg)), some (.int (iI nx)), some (.int (iI nd)), some (.int (iI ((p : Int) + 1))), none, none]) (by simp [lsw]) ?_
          have hq2 : nextL (bk m (2 + j)) S tg (p + 1) = (nx, nd) := (if_neg (by show ¬ ((S 10 2 < m 7 (2 + j) p 0 ∨ (m 7 (2 + j) p 0 = S 10 2 ∧ S 10 3 < (p : Int))) ∧ m 7 (2 + j) p 0 < (nextL (bk m (2 + j)) S tg p).2); rw [hq]; show ¬ ((S 10 2 < m 7 (2 + j) p 0 ∨ (m 7 (2 + j) p 0 = S 10 2 ∧ S 10 3 < (p : Int))) ∧ m 7 (2 + j) p 0 < nd); omega)).trans hq
          exact ih (n - (p + 1)) (by omega) (p + 1) nx nd rfl (by omega) hq2 (by omega) (by omega)
        · refine T.iload dX1_nextPayment_75 rfl ?_
          refine T.iload_n dX1_nextPayment_77 rfl ?_
          refine T.icmp_ge 87 dX1_nextPayment_78 (by unfold rg; omega) (by unfold rg; omega) (fun c7 => ?_) (fun c7 => ?_)
          · refine T.iinc (ls' := [some (rf E 10 j 0), some (.int (iI tg)), some (.int (iI nx)), some (.int (iI nd)), some (.int (iI ((p : Int) + 1))), some (.int (iI (m 7 (2 + j) p 0))), some (.int (iI 1))]) dX1_nextPayment_87 rfl rfl ?_
            refine T.goto 9 dX1_nextPayment_90 ?_
            refine T.fgt (ls' := [some (rf E 10 j 0), some (.int (iI tg)), some (.int (iI nx)), some (.int (iI nd)), some (.int (iI ((p : Int) + 1))), none, none]) (by simp [lsw]) ?_
            have hq2 : nextL (bk m (2 + j)) S tg (p + 1) = (nx, nd) := (if_neg (by show ¬ ((S 10 2 < m 7 (2 + j) p 0 ∨ (m 7 (2 + j) p 0 = S 10 2 ∧ S 10 3 < (p : Int))) ∧ m 7 (2 + j) p 0 < (nextL (bk m (2 + j)) S tg p).2); rw [hq]; show ¬ ((S 10 2 < m 7 (2 + j) p 0 ∨ (m 7 (2 + j) p 0 = S 10 2 ∧ S 10 3 < (p : Int))) ∧ m 7 (2 + j) p 0 < nd); omega)).trans hq
            exact ih (n - (p + 1)) (by omega) (p + 1) nx nd rfl (by omega) hq2 (by omega) (by omega)
          · refine T.iload dX1_nextPayment_81 rfl ?_
            refine T.istore_n (ls' := [some (rf E 10 j 0), some (.int (iI tg)), some (.int (iI (p : Int))), some (.int (iI nd)), some (.int (iI (p : Int))), some (.int (iI (m 7 (2 + j) p 0))), some (.int (iI 1))]) dX1_nextPayment_83 rfl ?_
            refine T.iload dX1_nextPayment_84 rfl ?_
            refine T.istore_n (ls' := [some (rf E 10 j 0), some (.int (iI tg)), some (.int (iI (p : Int))), some (.int (iI (m 7 (2 + j) p 0))), some (.int (iI (p : Int))), some (.int (iI (m 7 (2 + j) p 0))), some (.int (iI 1))]) dX1_nextPayment_86 rfl ?_
            refine T.iinc (ls' := [some (rf E 10 j 0), some (.int (iI tg)), some (.int (iI (p : Int))), some (.int (iI (m 7 (2 + j) p 0))), some (.int (iI ((p : Int) + 1))), some (.int (iI (m 7 (2 + j) p 0))), some (.int (iI 1))]) dX1_nextPayment_87 rfl rfl ?_
            refine T.goto 9 dX1_nextPayment_90 ?_
            refine T.fgt (ls' := [some (rf E 10 j 0), some (.int (iI tg)), some (.int (iI (p : Int))), some (.int (iI (m 7 (2 + j) p 0))), some (.int (iI ((p : Int) + 1))), none, none]) (by simp [lsw]) ?_
            have hq2 : nextL (bk m (2 + j)) S tg (p + 1) = ((p : Int), (m 7 (2 + j) p 0)) := (if_pos (by show (S 10 2 < m 7 (2 + j) p 0 ∨ (m 7 (2 + j) p 0 = S 10 2 ∧ S 10 3 < (p : Int))) ∧ m 7 (2 + j) p 0 < (nextL (bk m (2 + j)) S tg p).2; rw [hq]; show (S 10 2 < m 7 (2 + j) p 0 ∨ (m 7 (2 + j) p 0 = S 10 2 ∧ S 10 3 < (p : Int))) ∧ m 7 (2 + j) p 0 < nd; omega))
            exact ih (n - (p + 1)) (by omega) (p + 1) (p : Int) (m 7 (2 + j) p 0) rfl (by omega) hq2 (by omega) (by omega)
      · refine T.iload dX1_nextPayment_45 rfl ?_
        refine T.aload_n dX1_nextPayment_47 rfl ?_
        refine T.gI (z := S 10 2) dX1_nextPayment_48 fo_X1_25 (ok10 (by omega)) rfl rfl (wrC_c rfl) ?_
        refine T.icmp_ne 67 dX1_nextPayment_51 (by unfold rg; omega) (by unfold rg; omega) (fun c8 => ?_) (fun c8 => ?_)
        · refine T.iconst dX1_nextPayment_67 ?_
          refine T.istore (ls' := [some (rf E 10 j 0), some (.int (iI tg)), some (.int (iI nx)), some (.int (iI nd)), some (.int (iI (p : Int))), some (.int (iI (m 7 (2 + j) p 0))), some (.int (iI 0))]) dX1_nextPayment_68 rfl ?_
          refine T.iload dX1_nextPayment_70 rfl ?_
          refine T.if_eq 87 dX1_nextPayment_72 (by unfold rg; omega) (fun c9 => ?_) (fun c9 => ?_)
          · refine T.iinc (ls' := [some (rf E 10 j 0), some (.int (iI tg)), some (.int (iI nx)), some (.int (iI nd)), some (.int (iI ((p : Int) + 1))), some (.int (iI (m 7 (2 + j) p 0))), some (.int (iI 0))]) dX1_nextPayment_87 rfl rfl ?_
            refine T.goto 9 dX1_nextPayment_90 ?_
            refine T.fgt (ls' := [some (rf E 10 j 0), some (.int (iI tg)), some (.int (iI nx)), some (.int (iI nd)), some (.int (iI ((p : Int) + 1))), none, none]) (by simp [lsw]) ?_
            have hq2 : nextL (bk m (2 + j)) S tg (p + 1) = (nx, nd) := (if_neg (by show ¬ ((S 10 2 < m 7 (2 + j) p 0 ∨ (m 7 (2 + j) p 0 = S 10 2 ∧ S 10 3 < (p : Int))) ∧ m 7 (2 + j) p 0 < (nextL (bk m (2 + j)) S tg p).2); rw [hq]; show ¬ ((S 10 2 < m 7 (2 + j) p 0 ∨ (m 7 (2 + j) p 0 = S 10 2 ∧ S 10 3 < (p : Int))) ∧ m 7 (2 + j) p 0 < nd); omega)).trans hq
            exact ih (n - (p + 1)) (by omega) (p + 1) nx nd rfl (by omega) hq2 (by omega) (by omega)
          · refine T.iload dX1_nextPayment_75 rfl ?_
            refine T.iload_n dX1_nextPayment_77 rfl ?_
            refine T.icmp_ge 87 dX1_nextPayment_78 (by unfold rg; omega) (by unfold rg; omega) (fun c10 => ?_) (fun c10 => ?_)
            · refine T.iinc (ls' := [some (rf E 10 j 0), some (.int (iI tg)), some (.int (iI nx)), some (.int (iI nd)), some (.int (iI ((p : Int) + 1))), some (.int (iI (m 7 (2 + j) p 0))), some (.int (iI 0))]) dX1_nextPayment_87 rfl rfl ?_
              refine T.goto 9 dX1_nextPayment_90 ?_
              refine T.fgt (ls' := [some (rf E 10 j 0), some (.int (iI tg)), some (.int (iI nx)), some (.int (iI nd)), some (.int (iI ((p : Int) + 1))), none, none]) (by simp [lsw]) ?_
              have hq2 : nextL (bk m (2 + j)) S tg (p + 1) = (nx, nd) := (if_neg (by show ¬ ((S 10 2 < m 7 (2 + j) p 0 ∨ (m 7 (2 + j) p 0 = S 10 2 ∧ S 10 3 < (p : Int))) ∧ m 7 (2 + j) p 0 < (nextL (bk m (2 + j)) S tg p).2); rw [hq]; show ¬ ((S 10 2 < m 7 (2 + j) p 0 ∨ (m 7 (2 + j) p 0 = S 10 2 ∧ S 10 3 < (p : Int))) ∧ m 7 (2 + j) p 0 < nd); omega)).trans hq
              exact ih (n - (p + 1)) (by omega) (p + 1) nx nd rfl (by omega) hq2 (by omega) (by omega)
            · refine T.iload dX1_nextPayment_81 rfl ?_
              refine T.istore_n (ls' := [some (rf E 10 j 0), some (.int (iI tg)), some (.int (iI (p : Int))), some (.int (iI nd)), some (.int (iI (p : Int))), some (.int (iI (m 7 (2 + j) p 0))), some (.int (iI 0))]) dX1_nextPayment_83 rfl ?_
              refine T.iload dX1_nextPayment_84 rfl ?_
              refine T.istore_n (ls' := [some (rf E 10 j 0), some (.int (iI tg)), some (.int (iI (p : Int))), some (.int (iI (m 7 (2 + j) p 0))), some (.int (iI (p : Int))), some (.int (iI (m 7 (2 + j) p 0))), some (.int (iI 0))]) dX1_nextPayment_86 rfl ?_
              refine T.iinc (ls' := [some (rf E 10 j 0), some (.int (iI tg)), some (.int (iI (p : Int))), some (.int (iI (m 7 (2 + j) p 0))), some (.int (iI ((p : Int) + 1))), some (.int (iI (m 7 (2 + j) p 0))), some (.int (iI 0))]) dX1_nextPayment_87 rfl rfl ?_
              refine T.goto 9 dX1_nextPayment_90 ?_
              refine T.fgt (ls' := [some (rf E 10 j 0), some (.int (iI tg)), some (.int (iI (p : Int))), some (.int (iI (m 7 (2 + j) p 0))), some (.int (iI ((p : Int) + 1))), none, none]) (by simp [lsw]) ?_
              have hq2 : nextL (bk m (2 + j)) S tg (p + 1) = ((p : Int), (m 7 (2 + j) p 0)) := (if_pos (by show (S 10 2 < m 7 (2 + j) p 0 ∨ (m 7 (2 + j) p 0 = S 10 2 ∧ S 10 3 < (p : Int))) ∧ m 7 (2 + j) p 0 < (nextL (bk m (2 + j)) S tg p).2; rw [hq]; show (S 10 2 < m 7 (2 + j) p 0 ∨ (m 7 (2 + j) p 0 = S 10 2 ∧ S 10 3 < (p : Int))) ∧ m 7 (2 + j) p 0 < nd; omega))
              exact ih (n - (p + 1)) (by omega) (p + 1) (p : Int) (m 7 (2 + j) p 0) rfl (by omega) hq2 (by omega) (by omega)
        · refine T.iload dX1_nextPayment_54 rfl ?_
          refine T.aload_n dX1_nextPayment_56 rfl ?_
          refine T.gI (z := S 10 3) dX1_nextPayment_57 fo_X1_29 (ok10 (by omega)) rfl rfl (wrC_c rfl) ?_
          have q11 : -1 ≤ S 10 3 ∧ S 10 3 ≤ 11 := hS 10 3 rfl
          refine T.icmp_le 67 dX1_nextPayment_60 (by unfold rg; omega) (by unfold rg; omega) (fun c12 => ?_) (fun c12 => ?_)
          · refine T.iconst dX1_nextPayment_67 ?_
            refine T.istore (ls' := [some (rf E 10 j 0), some (.int (iI tg)), some (.int (iI nx)), some (.int (iI nd)), some (.int (iI (p : Int))), some (.int (iI (m 7 (2 + j) p 0))), some (.int (iI 0))]) dX1_nextPayment_68 rfl ?_
            refine T.iload dX1_nextPayment_70 rfl ?_
            refine T.if_eq 87 dX1_nextPayment_72 (by unfold rg; omega) (fun c13 => ?_) (fun c13 => ?_)
            · refine T.iinc (ls' := [some (rf E 10 j 0), some (.int (iI tg)), some (.int (iI nx)), some (.int (iI nd)), some (.int (iI ((p : Int) + 1))), some (.int (iI (m 7 (2 + j) p 0))), some (.int (iI 0))]) dX1_nextPayment_87 rfl rfl ?_
              refine T.goto 9 dX1_nextPayment_90 ?_
              refine T.fgt (ls' := [some (rf E 10 j 0), some (.int (iI tg)), some (.int (iI nx)), some (.int (iI nd)), some (.int (iI ((p : Int) + 1))), none, none]) (by simp [lsw]) ?_
              have hq2 : nextL (bk m (2 + j)) S tg (p + 1) = (nx, nd) := (if_neg (by show ¬ ((S 10 2 < m 7 (2 + j) p 0 ∨ (m 7 (2 + j) p 0 = S 10 2 ∧ S 10 3 < (p : Int))) ∧ m 7 (2 + j) p 0 < (nextL (bk m (2 + j)) S tg p).2); rw [hq]; show ¬ ((S 10 2 < m 7 (2 + j) p 0 ∨ (m 7 (2 + j) p 0 = S 10 2 ∧ S 10 3 < (p : Int))) ∧ m 7 (2 + j) p 0 < nd); omega)).trans hq
              exact ih (n - (p + 1)) (by omega) (p + 1) nx nd rfl (by omega) hq2 (by omega) (by omega)
            · refine T.iload dX1_nextPayment_75 rfl ?_
              refine T.iload_n dX1_nextPayment_77 rfl ?_
              refine T.icmp_ge 87 dX1_nextPayment_78 (by unfold rg; omega) (by unfold rg; omega) (fun c14 => ?_) (fun c14 => ?_)
              · refine T.iinc (ls' := [some (rf E 10 j 0), some (.int (iI tg)), some (.int (iI nx)), some (.int (iI nd)), some (.int (iI ((p : Int) + 1))), some (.int (iI (m 7 (2 + j) p 0))), some (.int (iI 0))]) dX1_nextPayment_87 rfl rfl ?_
                refine T.goto 9 dX1_nextPayment_90 ?_
                refine T.fgt (ls' := [some (rf E 10 j 0), some (.int (iI tg)), some (.int (iI nx)), some (.int (iI nd)), some (.int (iI ((p : Int) + 1))), none, none]) (by simp [lsw]) ?_
                have hq2 : nextL (bk m (2 + j)) S tg (p + 1) = (nx, nd) := (if_neg (by show ¬ ((S 10 2 < m 7 (2 + j) p 0 ∨ (m 7 (2 + j) p 0 = S 10 2 ∧ S 10 3 < (p : Int))) ∧ m 7 (2 + j) p 0 < (nextL (bk m (2 + j)) S tg p).2); rw [hq]; show ¬ ((S 10 2 < m 7 (2 + j) p 0 ∨ (m 7 (2 + j) p 0 = S 10 2 ∧ S 10 3 < (p : Int))) ∧ m 7 (2 + j) p 0 < nd); omega)).trans hq
                exact ih (n - (p + 1)) (by omega) (p + 1) nx nd rfl (by omega) hq2 (by omega) (by omega)
              · refine T.iload dX1_nextPayment_81 rfl ?_
                refine T.istore_n (ls' := [some (rf E 10 j 0), some (.int (iI tg)), some (.int (iI (p : Int))), some (.int (iI nd)), some (.int (iI (p : Int))), some (.int (iI (m 7 (2 + j) p 0))), some (.int (iI 0))]) dX1_nextPayment_83 rfl ?_
                refine T.iload dX1_nextPayment_84 rfl ?_
                refine T.istore_n (ls' := [some (rf E 10 j 0), some (.int (iI tg)), some (.int (iI (p : Int))), some (.int (iI (m 7 (2 + j) p 0))), some (.int (iI (p : Int))), some (.int (iI (m 7 (2 + j) p 0))), some (.int (iI 0))]) dX1_nextPayment_86 rfl ?_
                refine T.iinc (ls' := [some (rf E 10 j 0), some (.int (iI tg)), some (.int (iI (p : Int))), some (.int (iI (m 7 (2 + j) p 0))), some (.int (iI ((p : Int) + 1))), some (.int (iI (m 7 (2 + j) p 0))), some (.int (iI 0))]) dX1_nextPayment_87 rfl rfl ?_
                refine T.goto 9 dX1_nextPayment_90 ?_
                refine T.fgt (ls' := [some (rf E 10 j 0), some (.int (iI tg)), some (.int (iI (p : Int))), some (.int (iI (m 7 (2 + j) p 0))), some (.int (iI ((p : Int) + 1))), none, none]) (by simp [lsw]) ?_
                have hq2 : nextL (bk m (2 + j)) S tg (p + 1) = ((p : Int), (m 7 (2 + j) p 0)) := (if_pos (by show (S 10 2 < m 7 (2 + j) p 0 ∨ (m 7 (2 + j) p 0 = S 10 2 ∧ S 10 3 < (p : Int))) ∧ m 7 (2 + j) p 0 < (nextL (bk m (2 + j)) S tg p).2; rw [hq]; show (S 10 2 < m 7 (2 + j) p 0 ∨ (m 7 (2 + j) p 0 = S 10 2 ∧ S 10 3 < (p : Int))) ∧ m 7 (2 + j) p 0 < nd; omega))
                exact ih (n - (p + 1)) (by omega) (p + 1) (p : Int) (m 7 (2 + j) p 0) rfl (by omega) hq2 (by omega) (by omega)
          · refine T.iconst dX1_nextPayment_63 ?_
            refine T.goto 68 dX1_nextPayment_64 ?_
            refine T.istore (ls' := [some (rf E 10 j 0), some (.int (iI tg)), some (.int (iI nx)), some (.int (iI nd)), some (.int (iI (p : Int))), some (.int (iI (m 7 (2 + j) p 0))), some (.int (iI 1))]) dX1_nextPayment_68 rfl ?_
            refine T.iload dX1_nextPayment_70 rfl ?_
            refine T.if_eq 87 dX1_nextPayment_72 (by unfold rg; omega) (fun c15 => ?_) (fun c15 => ?_)
            · refine T.iinc (ls' := [some (rf E 10 j 0), some (.int (iI tg)), some (.int (iI nx)), some (.int (iI nd)), some (.int (iI ((p : Int) + 1))), some (.int (iI (m 7 (2 + j) p 0))), some (.int (iI 1))]) dX1_nextPayment_87 rfl rfl ?_
              refine T.goto 9 dX1_nextPayment_90 ?_
              refine T.fgt (ls' := [some (rf E 10 j 0), some (.int (iI tg)), some (.int (iI nx)), some (.int (iI nd)), some (.int (iI ((p : Int) + 1))), none, none]) (by simp [lsw]) ?_
              have hq2 : nextL (bk m (2 + j)) S tg (p + 1) = (nx, nd) := (if_neg (by show ¬ ((S 10 2 < m 7 (2 + j) p 0 ∨ (m 7 (2 + j) p 0 = S 10 2 ∧ S 10 3 < (p : Int))) ∧ m 7 (2 + j) p 0 < (nextL (bk m (2 + j)) S tg p).2); rw [hq]; show ¬ ((S 10 2 < m 7 (2 + j) p 0 ∨ (m 7 (2 + j) p 0 = S 10 2 ∧ S 10 3 < (p : Int))) ∧ m 7 (2 + j) p 0 < nd); omega)).trans hq
              exact ih (n - (p + 1)) (by omega) (p + 1) nx nd rfl (by omega) hq2 (by omega) (by omega)
            · refine T.iload dX1_nextPayment_75 rfl ?_
              refine T.iload_n dX1_nextPayment_77 rfl ?_
              refine T.icmp_ge 87 dX1_nextPayment_78 (by unfold rg; omega) (by unfold rg; omega) (fun c16 => ?_) (fun c16 => ?_)
              · refine T.iinc (ls' := [some (rf E 10 j 0), some (.int (iI tg)), some (.int (iI nx)), some (.int (iI nd)), some (.int (iI ((p : Int) + 1))), some (.int (iI (m 7 (2 + j) p 0))), some (.int (iI 1))]) dX1_nextPayment_87 rfl rfl ?_
                refine T.goto 9 dX1_nextPayment_90 ?_
                refine T.fgt (ls' := [some (rf E 10 j 0), some (.int (iI tg)), some (.int (iI nx)), some (.int (iI nd)), some (.int (iI ((p : Int) + 1))), none, none]) (by simp [lsw]) ?_
                have hq2 : nextL (bk m (2 + j)) S tg (p + 1) = (nx, nd) := (if_neg (by show ¬ ((S 10 2 < m 7 (2 + j) p 0 ∨ (m 7 (2 + j) p 0 = S 10 2 ∧ S 10 3 < (p : Int))) ∧ m 7 (2 + j) p 0 < (nextL (bk m (2 + j)) S tg p).2); rw [hq]; show ¬ ((S 10 2 < m 7 (2 + j) p 0 ∨ (m 7 (2 + j) p 0 = S 10 2 ∧ S 10 3 < (p : Int))) ∧ m 7 (2 + j) p 0 < nd); omega)).trans hq
                exact ih (n - (p + 1)) (by omega) (p + 1) nx nd rfl (by omega) hq2 (by omega) (by omega)
              · refine T.iload dX1_nextPayment_81 rfl ?_
                refine T.istore_n (ls' := [some (rf E 10 j 0), some (.int (iI tg)), some (.int (iI (p : Int))), some (.int (iI nd)), some (.int (iI (p : Int))), some (.int (iI (m 7 (2 + j) p 0))), some (.int (iI 1))]) dX1_nextPayment_83 rfl ?_
                refine T.iload dX1_nextPayment_84 rfl ?_
                refine T.istore_n (ls' := [some (rf E 10 j 0), some (.int (iI tg)), some (.int (iI (p : Int))), some (.int (iI (m 7 (2 + j) p 0))), some (.int (iI (p : Int))), some (.int (iI (m 7 (2 + j) p 0))), some (.int (iI 1))]) dX1_nextPayment_86 rfl ?_
                refine T.iinc (ls' := [some (rf E 10 j 0), some (.int (iI tg)), some (.int (iI (p : Int))), some (.int (iI (m 7 (2 + j) p 0))), some (.int (iI ((p : Int) + 1))), some (.int (iI (m 7 (2 + j) p 0))), some (.int (iI 1))]) dX1_nextPayment_87 rfl rfl ?_
                refine T.goto 9 dX1_nextPayment_90 ?_
                refine T.fgt (ls' := [some (rf E 10 j 0), some (.int (iI tg)), some (.int (iI (p : Int))), some (.int (iI (m 7 (2 + j) p 0))), some (.int (iI ((p : Int) + 1))), none, none]) (by simp [lsw]) ?_
                have hq2 : nextL (bk m (2 + j)) S tg (p + 1) = ((p : Int), (m 7 (2 + j) p 0)) := (if_pos (by show (S 10 2 < m 7 (2 + j) p 0 ∨ (m 7 (2 + j) p 0 = S 10 2 ∧ S 10 3 < (p : Int))) ∧ m 7 (2 + j) p 0 < (nextL (bk m (2 + j)) S tg p).2; rw [hq]; show (S 10 2 < m 7 (2 + j) p 0 ∨ (m 7 (2 + j) p 0 = S 10 2 ∧ S 10 3 < (p : Int))) ∧ m 7 (2 + j) p 0 < nd; omega))
                exact ih (n - (p + 1)) (by omega) (p + 1) (p : Int) (m 7 (2 + j) p 0) rfl (by omega) hq2 (by omega) (by omega)
set_option maxHeartbeats 4000000 in
set_option maxRecDepth 100000 in
theorem c_next (E : Ev) (m : Mem) (j : Nat) (S : PS) (tg : Int) (hj : j < 6) (hI : Inv m) (hS : InvS kC S) (htg : -1 ≤ tg ∧ tg ≤ 299) : CT E 1 mX1_nextPayment [rf E 10 j 0, .int (iI tg)] (hp E (wrC m j S)) (some (.int (iI (nextS (bk m (2 + j)) S tg)))) (hp E (wrC m j S)) := by
  refine CT.go okX1_nextPayment (Nat.le_of_ble_eq_true rfl) ?_
  show T E 1 mX1_nextPayment 0 [some (rf E 10 j 0), some (.int (iI tg)), none, none, none, none, none] [] (hp E (wrC m j S)) _
  have hn8 : 0 ≤ m 1 (2 + j) 0 3 ∧ m 1 (2 + j) 0 3 ≤ 12 := hI 1 (2 + j) 0 3
  refine T.iconst dX1_nextPayment_0 ?_
  refine T.istore_n (ls' := [some (rf E 10 j 0), some (.int (iI tg)), some (.int (iI (-1))), none, none, none, none]) dX1_nextPayment_1 rfl ?_
  refine T.iload_n dX1_nextPayment_2 rfl ?_
  refine T.iconst dX1_nextPayment_3 ?_
  refine T.iadd dX1_nextPayment_4 ?_
  refine T.istore_n (ls' := [some (rf E 10 j 0), some (.int (iI tg)), some (.int (iI (-1))), some (.int (iI (tg + 1))), none, none, none]) dX1_nextPayment_5 rfl ?_
  refine T.iconst dX1_nextPayment_6 ?_
  refine T.istore (ls' := [some (rf E 10 j 0), some (.int (iI tg)), some (.int (iI (-1))), some (.int (iI (tg + 1))), some (.int (iI 0)), none, none]) dX1_nextPayment_7 rfl ?_
  exact c_next_loop E m j S tg hj hI hS htg _ (Int.toNat_of_nonneg hn8.1).symm _ 0 (-1) (tg + 1) rfl (Nat.zero_le _) rfl (by omega) (by omega)
