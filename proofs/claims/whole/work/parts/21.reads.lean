set_option maxHeartbeats 4000000 in
set_option maxRecDepth 100000 in
theorem c_isOpen (E : Ev) (m : Mem) (j : Nat) (S : PS) {d : Int} (hj : j < 6) (hI : Inv m) (hS : InvS kC S) (hd : rg d) : CT E 1 mX1_isOpen [rf E 10 j 0, .int (iI d)] (hp E (wrC m j S)) (some (.int (iI (bZ (opS (bk m (2 + j)) S d))))) (hp E (wrC m j S)) := by
  refine CT.go okX1_isOpen (Nat.le_of_ble_eq_true rfl) ?_
  show T E 1 mX1_isOpen 0 [some (rf E 10 j 0), some (.int (iI d))] [] (hp E (wrC m j S)) _
  unfold rg at hd
  refine T.iload_n dX1_isOpen_0 rfl ?_
  refine T.if_lt 56 dX1_isOpen_1 (by unfold rg; omega) (fun c1 => ?_) (fun c1 => ?_)
  · refine T.iconst dX1_isOpen_56 ?_
    exact T.zret dX1_isOpen_57 (narZ (Or.inl rfl)) ⟨by rw [bZ_f (by show ¬ (0 ≤ d ∧ d < m 1 (2 + j) 0 1 ∧ m 5 (2 + j) (d).toNat 1 ≤ S 10 2 ∧ 0 < S 11 (d).toNat + S 12 (d).toNat); omega)], rfl⟩
  · refine T.iload_n dX1_isOpen_4 rfl ?_
    refine T.aload_n dX1_isOpen_5 rfl ?_
    refine T.mget (v := rf E 1 (2 + j) 0) dX1_isOpen_6 fo_X1_12 (ok10 (by omega)) rfl rfl ?_
    refine T.gI (z := m 1 (2 + j) 0 1) dX1_isOpen_9 fo_X1_77 (ok1 (by omega)) rfl rfl rfl ?_
    have q2 : 0 ≤ m 1 (2 + j) 0 1 ∧ m 1 (2 + j) 0 1 ≤ 8 := hI 1 (2 + j) 0 1
    refine T.icmp_ge 56 dX1_isOpen_12 (by unfold rg; omega) (by unfold rg; omega) (fun c3 => ?_) (fun c3 => ?_)
    · refine T.iconst dX1_isOpen_56 ?_
      exact T.zret dX1_isOpen_57 (narZ (Or.inl rfl)) ⟨by rw [bZ_f (by show ¬ (0 ≤ d ∧ d < m 1 (2 + j) 0 1 ∧ m 5 (2 + j) (d).toNat 1 ≤ S 10 2 ∧ 0 < S 11 (d).toNat + S 12 (d).toNat); omega)], rfl⟩
    · refine T.aload_n dX1_isOpen_15 rfl ?_
      refine T.mget (v := rf E 1 (2 + j) 0) dX1_isOpen_16 fo_X1_12 (ok10 (by omega)) rfl rfl ?_
      refine T.mget (v := rf E 2 (2 + j) 0) dX1_isOpen_19 fo_X1_80 (ok1 (by omega)) rfl rfl ?_
      refine T.iload_n dX1_isOpen_22 rfl ?_
      refine T.mald (C := RX2) (x := d.toNat) dX1_isOpen_23 (ok2 (by omega)) (fun _ => rfl) rfl (by omega) (by omega) ?_
      refine T.gI (z := m 5 (2 + j) d.toNat 1) dX1_isOpen_24 fo_X1_130 (ok5 (by omega) (by omega)) rfl rfl rfl ?_
      have q4 : 0 ≤ m 5 (2 + j) d.toNat 1 ∧ m 5 (2 + j) d.toNat 1 ≤ 299 := hI 5 (2 + j) d.toNat 1
      refine T.aload_n dX1_isOpen_27 rfl ?_
      refine T.gI (z := S 10 2) dX1_isOpen_28 fo_X1_25 (ok10 (by omega)) rfl rfl (wrC_c rfl) ?_
      have q5 : 0 ≤ S 10 2 ∧ S 10 2 ≤ 299 := hS 10 2 rfl
      refine T.icmp_gt 56 dX1_isOpen_31 (by unfold rg; omega) (by unfold rg; omega) (fun c6 => ?_) (fun c6 => ?_)
      · refine T.iconst dX1_isOpen_56 ?_
        exact T.zret dX1_isOpen_57 (narZ (Or.inl rfl)) ⟨by rw [bZ_f (by show ¬ (0 ≤ d ∧ d < m 1 (2 + j) 0 1 ∧ m 5 (2 + j) (d).toNat 1 ≤ S 10 2 ∧ 0 < S 11 (d).toNat + S 12 (d).toNat); omega)], rfl⟩
      · refine T.aload_n dX1_isOpen_34 rfl ?_
        refine T.mget (v := rf E 11 j 0) dX1_isOpen_35 fo_X1_32 (ok10 (by omega)) rfl rfl ?_
        refine T.iload_n dX1_isOpen_38 rfl ?_
        refine T.aL (z := S 11 d.toNat) (x := d.toNat) dX1_isOpen_39 (ok11 (by omega)) (fun _ => rfl) (by omega) (by omega) (wrC_c rfl) ?_
        have q7 : 0 ≤ S 11 d.toNat ∧ S 11 d.toNat ≤ 99990000 := hS 11 d.toNat rfl
        refine T.aload_n dX1_isOpen_40 rfl ?_
        refine T.mget (v := rf E 12 j 0) dX1_isOpen_41 fo_X1_36 (ok10 (by omega)) rfl rfl ?_
        refine T.iload_n dX1_isOpen_44 rfl ?_
        refine T.aL (z := S 12 d.toNat) (x := d.toNat) dX1_isOpen_45 (ok12 (by omega)) (fun _ => rfl) (by omega) (by omega) (wrC_c rfl) ?_
        have q8 : 0 ≤ S 12 d.toNat ∧ S 12 d.toNat ≤ 4000000000 := hS 12 d.toNat rfl
        refine T.ladd dX1_isOpen_46 ?_
        refine T.lconst0 dX1_isOpen_47 ?_
        refine T.lcmp_le 56 dX1_isOpen_48 dX1_isOpen_49 (by unfold rl; omega) (by unfold rl; omega) (fun c9 => ?_) (fun c9 => ?_)
        · refine T.iconst dX1_isOpen_56 ?_
          exact T.zret dX1_isOpen_57 (narZ (Or.inl rfl)) ⟨by rw [bZ_f (by show ¬ (0 ≤ d ∧ d < m 1 (2 + j) 0 1 ∧ m 5 (2 + j) (d).toNat 1 ≤ S 10 2 ∧ 0 < S 11 (d).toNat + S 12 (d).toNat); omega)], rfl⟩
        · refine T.iconst dX1_isOpen_52 ?_
          refine T.goto 57 dX1_isOpen_53 ?_
          exact T.zret dX1_isOpen_57 (narZ (Or.inr rfl)) ⟨by rw [bZ_t (by show 0 ≤ d ∧ d < m 1 (2 + j) 0 1 ∧ m 5 (2 + j) (d).toNat 1 ≤ S 10 2 ∧ 0 < S 11 (d).toNat + S 12 (d).toNat; omega)], rfl⟩
set_option maxHeartbeats 4000000 in
set_option maxRecDepth 100000 in
theorem c_sumLeft (E : Ev) (m : Mem) (j : Nat) (S : PS) (d : Nat) (hj : j < 6) (hI : Inv m) (hS : InvS kC S) (hd : d < 8) : CT E 1 mX1_sumLeft [rf E 10 j 0, .int (iI (d : Int))] (hp E (wrC m j S)) (some (.long (lI (if m 5 (2 + j) d 1 ≤ S 10 2 then S 11 d else 0)))) (hp E (wrC m j S)) := by
  refine CT.go okX1_sumLeft (Nat.le_of_ble_eq_true rfl) ?_
  show T E 1 mX1_sumLeft 0 [some (rf E 10 j 0), some (.int (iI (d : Int)))] [] (hp E (wrC m j S)) _
  refine T.aload_n dX1_sumLeft_0 rfl ?_
  refine T.mget (v := rf E 1 (2 + j) 0) dX1_sumLeft_1 fo_X1_12 (ok10 (by omega)) rfl rfl ?_
  refine T.mget (v := rf E 2 (2 + j) 0) dX1_sumLeft_4 fo_X1_80 (ok1 (by omega)) rfl rfl ?_
  refine T.iload_n dX1_sumLeft_7 rfl ?_
  refine T.mald (C := RX2) (x := d) dX1_sumLeft_8 (ok2 (by omega)) (fun _ => rfl) rfl rfl (by omega) ?_
  refine T.gI (z := m 5 (2 + j) d 1) dX1_sumLeft_9 fo_X1_130 (ok5 (by omega) (by omega)) rfl rfl rfl ?_
  have q1 : 0 ≤ m 5 (2 + j) d 1 ∧ m 5 (2 + j) d 1 ≤ 299 := hI 5 (2 + j) d 1
  refine T.aload_n dX1_sumLeft_12 rfl ?_
  refine T.gI (z := S 10 2) dX1_sumLeft_13 fo_X1_25 (ok10 (by omega)) rfl rfl (wrC_c rfl) ?_
  have q2 : 0 ≤ S 10 2 ∧ S 10 2 ≤ 299 := hS 10 2 rfl
  refine T.icmp_gt 28 dX1_sumLeft_16 (by unfold rg; omega) (by unfold rg; omega) (fun c3 => ?_) (fun c3 => ?_)
  · refine T.lconst0 dX1_sumLeft_28 ?_
    exact T.lret dX1_sumLeft_29 ⟨by first | rw [if_pos (by omega)] | rw [if_neg (by omega)], rfl⟩
  · refine T.aload_n dX1_sumLeft_19 rfl ?_
    refine T.mget (v := rf E 11 j 0) dX1_sumLeft_20 fo_X1_32 (ok10 (by omega)) rfl rfl ?_
    refine T.iload_n dX1_sumLeft_23 rfl ?_
    refine T.aL (z := S 11 d) (x := d) dX1_sumLeft_24 (ok11 (by omega)) (fun _ => rfl) rfl (by omega) (wrC_c rfl) ?_
    have q4 : 0 ≤ S 11 d ∧ S 11 d ≤ 99990000 := hS 11 d rfl
    refine T.goto 29 dX1_sumLeft_25 ?_
    exact T.lret dX1_sumLeft_29 ⟨by first | rw [if_pos (by omega)] | rw [if_neg (by omega)], rfl⟩
set_option maxHeartbeats 4000000 in
set_option maxRecDepth 100000 in
theorem c_runLeft (E : Ev) (m : Mem) (j : Nat) (S : PS) (d : Nat) (hj : j < 6) (hI : Inv m) (hS : InvS kC S) (hd : d < 8) : CT E 1 mX1_runLeft [rf E 10 j 0, .int (iI (d : Int))] (hp E (wrC m j S)) (some (.long (lI (if m 5 (2 + j) d 1 ≤ S 10 2 then S 12 d else 0)))) (hp E (wrC m j S)) := by
  refine CT.go okX1_runLeft (Nat.le_of_ble_eq_true rfl) ?_
  show T E 1 mX1_runLeft 0 [some (rf E 10 j 0), some (.int (iI (d : Int)))] [] (hp E (wrC m j S)) _
  refine T.aload_n dX1_runLeft_0 rfl ?_
  refine T.mget (v := rf E 1 (2 + j) 0) dX1_runLeft_1 fo_X1_12 (ok10 (by omega)) rfl rfl ?_
  refine T.mget (v := rf E 2 (2 + j) 0) dX1_runLeft_4 fo_X1_80 (ok1 (by omega)) rfl rfl ?_
  refine T.iload_n dX1_runLeft_7 rfl ?_
  refine T.mald (C := RX2) (x := d) dX1_runLeft_8 (ok2 (by omega)) (fun _ => rfl) rfl rfl (by omega) ?_
  refine T.gI (z := m 5 (2 + j) d 1) dX1_runLeft_9 fo_X1_130 (ok5 (by omega) (by omega)) rfl rfl rfl ?_
  have q1 : 0 ≤ m 5 (2 + j) d 1 ∧ m 5 (2 + j) d 1 ≤ 299 := hI 5 (2 + j) d 1
  refine T.aload_n dX1_runLeft_12 rfl ?_
  refine T.gI (z := S 10 2) dX1_runLeft_13 fo_X1_25 (ok10 (by omega)) rfl rfl (wrC_c rfl) ?_
  have q2 : 0 ≤ S 10 2 ∧ S 10 2 ≤ 299 := hS 10 2 rfl
  refine T.icmp_gt 28 dX1_runLeft_16 (by unfold rg; omega) (by unfold rg; omega) (fun c3 => ?_) (fun c3 => ?_)
  · refine T.lconst0 dX1_runLeft_28 ?_
    exact T.lret dX1_runLeft_29 ⟨by first | rw [if_pos (by omega)] | rw [if_neg (by omega)], rfl⟩
  · refine T.aload_n dX1_runLeft_19 rfl ?_
    refine T.mget (v := rf E 12 j 0) dX1_runLeft_20 fo_X1_36 (ok10 (by omega)) rfl rfl ?_
    refine T.iload_n dX1_runLeft_23 rfl ?_
    refine T.aL (z := S 12 d) (x := d) dX1_runLeft_24 (ok12 (by omega)) (fun _ => rfl) rfl (by omega) (wrC_c rfl) ?_
    have q4 : 0 ≤ S 12 d ∧ S 12 d ≤ 4000000000 := hS 12 d rfl
    refine T.goto 29 dX1_runLeft_25 ?_
    exact T.lret dX1_runLeft_29 ⟨by first | rw [if_pos (by omega)] | rw [if_neg (by omega)], rfl⟩
set_option maxHeartbeats 4000000 in
set_option maxRecDepth 100000 in
theorem c_leftOf (E : Ev) (m : Mem) (j : Nat) (S : PS) (d : Nat) (hj : j < 6) (hI : Inv m) (hS : InvS kC S) (hd : d < 8) : CT E 2 mX1_leftOf [rf E 10 j 0, .int (iI (d : Int))] (hp E (wrC m j S)) (some (.long (lI (leftS (bk m (2 + j)) S d)))) (hp E (wrC m j S)) := by
  refine CT.go okX1_leftOf (Nat.le_of_ble_eq_true rfl) ?_
  show T E 2 mX1_leftOf 0 [some (rf E 10 j 0), some (.int (iI (d : Int)))] [] (hp E (wrC m j S)) _
  refine T.aload_n dX1_leftOf_0 rfl ?_
  refine T.iload_n dX1_leftOf_1 rfl ?_
  refine T.cV1 (As := [.int (iI (d : Int))]) (st := []) dX1_leftOf_2 lk_X1_146 (c_sumLeft E m j S d hj hI hS hd) (ok10 (by omega)) rfl rfl (by decide) rfl rfl (Nat.le_of_ble_eq_true rfl) ?_
  refine T.aload_n dX1_leftOf_5 rfl ?_
  refine T.iload_n dX1_leftOf_6 rfl ?_
  refine T.cV1 (As := [.int (iI (d : Int))]) (st := [.long (lI (if m 5 (2 + j) d 1 ≤ S 10 2 then S 11 d else 0))]) dX1_leftOf_7 lk_X1_150 (c_runLeft E m j S d hj hI hS hd) (ok10 (by omega)) rfl rfl (by decide) rfl rfl (Nat.le_of_ble_eq_true rfl) ?_
  refine T.ladd dX1_leftOf_10 ?_
  exact T.lret dX1_leftOf_11 ⟨by congr 3; show _ = (if m 5 (2 + j) d 1 ≤ S 10 2 then S 11 d + S 12 d else 0); split <;> simp, rfl⟩
set_option maxHeartbeats 4000000 in
set_option maxRecDepth 100000 in
theorem c_owedNow_loop (E : Ev) (m : Mem) (j : Nat) (S : PS) (hj : j < 6) (hI : Inv m) (hS : InvS kC S) (n : Nat) (hn : m 1 (2 + j) 0 1 = n) : ∀ (k d : Nat), n - d = k → d ≤ n → T E 3 mX1_owedNow 4 [some (rf E 10 j 0), some (.long (lI (owedL (bk m (2 + j)) S d))), none, some (.int (iI (d : Int)))] [] (hp E (wrC m j S)) (fun r' h' => r' = some (.long (lI (owedL (bk m (2 + j)) S n))) ∧ h' = (hp E (wrC m j S))) := by
  have hn8 : 0 ≤ m 1 (2 + j) 0 1 ∧ m 1 (2 + j) 0 1 ≤ 8 := hI 1 (2 + j) 0 1
  intro k
  induction k using Nat.strongRecOn with
  | ind k ih =>
    intro d hk hdn
    refine T.iload_n dX1_owedNow_4 rfl ?_
    refine T.aload_n dX1_owedNow_5 rfl ?_
    refine T.mget (v := rf E 1 (2 + j) 0) dX1_owedNow_6 fo_X1_12 (ok10 (by omega)) rfl rfl ?_
    refine T.gI (z := m 1 (2 + j) 0 1) dX1_owedNow_9 fo_X1_77 (ok1 (by omega)) rfl rfl rfl ?_
    have q1 : 0 ≤ m 1 (2 + j) 0 1 ∧ m 1 (2 + j) 0 1 ≤ 8 := hI 1 (2 + j) 0 1
    refine T.icmp_ge 29 dX1_owedNow_12 (by unfold rg; omega) (by unfold rg; omega) (fun c2 => ?_) (fun c2 => ?_)
    · refine T.lload_n dX1_owedNow_29 rfl ?_
      exact T.lret dX1_owedNow_30 ⟨by rw [show d = n from by omega], rfl⟩
    · refine T.lload_n dX1_owedNow_15 rfl ?_
      refine T.aload_n dX1_owedNow_16 rfl ?_
      refine T.iload_n dX1_owedNow_17 rfl ?_
      refine T.cV1 (As := [.int (iI (d : Int))]) (st := [.long (lI (owedL (bk m (2 + j)) S d))]) dX1_owedNow_18 lk_X1_153 (c_leftOf E m j S d hj hI hS (by omega)) (ok10 (by omega)) rfl rfl (by decide) rfl rfl (Nat.le_of_ble_eq_true rfl) ?_
      refine T.ladd dX1_owedNow_21 ?_
      refine T.lstore_n (ls' := [some (rf E 10 j 0), some (.long (lI ((owedL (bk m (2 + j)) S d) + (leftS (bk m (2 + j)) S d)))), none, some (.int (iI (d : Int)))]) dX1_owedNow_22 rfl ?_
      refine T.iinc (ls' := [some (rf E 10 j 0), some (.long (lI ((owedL (bk m (2 + j)) S d) + (leftS (bk m (2 + j)) S d)))), none, some (.int (iI ((d : Int) + 1)))]) dX1_owedNow_23 rfl rfl ?_
      refine T.goto 4 dX1_owedNow_26 ?_
      exact ih (n - (d + 1)) (by omega) (d + 1) rfl (by omega)
set_option maxHeartbeats 4000000 in
set_option maxRecDepth 100000 in
theorem c_owedNow (E : Ev) (m : Mem) (j : Nat) (S : PS) (hj : j < 6) (hI : Inv m) (hS : InvS kC S) : CT E 3 mX1_owedNow [rf E 10 j 0] (hp E (wrC m j S)) (some (.long (lI (owedL (bk m (2 + j)) S (m 1 (2 + j) 0 1).toNat)))) (hp E (wrC m j S)) := by
  refine CT.go okX1_owedNow (Nat.le_of_ble_eq_true rfl) ?_
  show T E 3 mX1_owedNow 0 [some (rf E 10 j 0), none, none, none] [] (hp E (wrC m j S)) _
  have hn8 : 0 ≤ m 1 (2 + j) 0 1 ∧ m 1 (2 + j) 0 1 ≤ 8 := hI 1 (2 + j) 0 1
  refine T.lconst0 dX1_owedNow_0 ?_
  refine T.lstore_n (ls' := [some (rf E 10 j 0), some (.long (lI 0)), none, none]) dX1_owedNow_1 rfl ?_
  refine T.iconst dX1_owedNow_2 ?_
  refine T.istore_n (ls' := [some (rf E 10 j 0), some (.long (lI 0)), none, some (.int (iI 0))]) dX1_owedNow_3 rfl ?_
  exact c_owedNow_loop E m j S hj hI hS _ (Int.toNat_of_nonneg hn8.1).symm _ 0 rfl (Nat.zero_le _)
