theorem Inv.cp {m : Mem} {k j i j0 i0 n : Nat} (h : Inv m) : Inv (cpS m k j i k j0 i0 n) := by
  intro k' j' i' x'
  show inR k' x' ((if k' = k ∧ j' = j ∧ i' = i then (fun x => if x < n then m k j0 i0 x else m k j i x) else m k' j' i') x')
  split
  · rename_i e; obtain ⟨rfl, rfl, rfl⟩ := e
    simp only
    split
    · exact h _ _ _ _
    · exact h _ _ _ _
  · exact h _ _ _ _
theorem Inv.cpDebt {m : Mem} {b b0 d : Nat} (h : Inv m) : Inv (cpDebt m b b0 d) := ((h.up (h 5 b0 d 0)).up (h 5 b0 d 1)).cp
theorem Inv.cpPay {m : Mem} {b b0 p : Nat} (h : Inv m) : Inv (cpPay m b b0 p) := (((h.up (h 7 b0 p 0)).up (h 7 b0 p 1)).up (h 7 b0 p 2)).up (h 7 b0 p 3)
theorem Inv.cpLaw {m : Mem} {q q0 : Nat} (h : Inv m) : Inv (cpLaw m q q0) := (h.cp.up (h.cp 8 q0 0 1)).up (h.cp 8 q0 0 2)
theorem Inv.cpDs {m : Mem} {b b0 : Nat} (h : Inv m) : ∀ n, Inv (cpDs m b b0 n)
  | 0 => h
  | n + 1 => (Inv.cpDs h n).cpDebt
theorem Inv.cpPs {m : Mem} {b b0 : Nat} (h : Inv m) : ∀ n, Inv (cpPs m b b0 n)
  | 0 => h
  | n + 1 => (Inv.cpPs h n).cpPay
theorem Inv.cpBk {m : Mem} {b b0 : Nat} (h : Inv m) : Inv (cpBk m b b0) := by
  have h1 : Inv (cpB1 m b b0) := Inv.cpDs (h.up (h 1 b0 0 1)) _
  have h2 : Inv (cpB2 m b b0) := Inv.cpPs (h1.up (h1 1 b0 0 3)) _
  exact h2.cpLaw.cpLaw
/-- the memory behind a course's start, its own numbers apart -/
def stM (m : Mem) (j b0 ln : Nat) : Mem := cpLaw (cpBk m (2 + j) b0) (16 + j) (2 * b0 + ln)
theorem Inv.stM {m : Mem} {j b0 ln : Nat} (h : Inv m) : Inv (stM m j b0 ln) := h.cpBk.cpLaw
theorem stL_k {β S : PS} {k : Nat} (h : k ≠ 11 ∧ k ≠ 12 ∧ k ≠ 13 ∧ k ≠ 14 ∧ k ≠ 15) : ∀ n, stL β S n k = S k
  | 0 => rfl
  | n + 1 => by
    funext x
    show upT (upT (upT (upT (upT (stL β S n) 11 n _) 12 n _) 13 n _) 14 n _) 15 n _ k x = _
    rw [upT_k h.2.2.2.2, upT_k h.2.2.2.1, upT_k h.2.2.1, upT_k h.2.1, upT_k h.1, stL_k h n]
theorem stL_inv {β S : PS} (hS : InvS kC S) (hw : ∀ d, 0 ≤ β 0 d ∧ β 0 d ≤ 9999) : ∀ n, InvS kC (stL β S n) ∧ ∀ d, d < n → stL β S n 11 d = β 0 d * 10000 ∧ stL β S n 12 d = 0 ∧ stL β S n 13 d = -1 ∧ stL β S n 14 d = -1 ∧ stL β S n 15 d = -1
  | 0 => ⟨hS, fun d h => by omega⟩
  | n + 1 => by
    obtain ⟨i1, i2⟩ := stL_inv hS hw n
    have := hw n
    refine ⟨((((i1.up (by show 0 ≤ _ ∧ _ ≤ (99990000 : Int); omega)).up (by show 0 ≤ _ ∧ _ ≤ (4000000000 : Int); omega)).up (by show -1 ≤ _ ∧ _ ≤ (299 : Int); omega)).up (by show -1 ≤ _ ∧ _ ≤ (299 : Int); omega)).up (by show -1 ≤ _ ∧ _ ≤ (299 : Int); omega), fun d hd => ?_⟩
    by_cases he : d = n
    · subst he
      simp [stL, upT]
    · have := i2 d (by omega)
      simp [stL, upT, he]
      exact this
theorem stS_inv {β S : PS} (hS : InvS kC S) (hw : ∀ d, 0 ≤ β 0 d ∧ β 0 d ≤ 9999) : InvS kC (stS β S) ∧ CB β (stS β S) := by
  have h0 : InvS kC (upT (upT (upT S 10 2 0) 10 3 (-1)) 10 13 0) := ((hS.up (by show 0 ≤ _ ∧ _ ≤ (299 : Int); omega)).up (by show -1 ≤ _ ∧ _ ≤ (11 : Int); omega)).up trivial
  obtain ⟨i1, i2⟩ := stL_inv h0 hw (β 12 0).toNat
  refine ⟨i1, fun d hd => ?_⟩
  obtain ⟨e1, e2, -⟩ := i2 d hd
  have := hw d
  unfold stS
  rw [e1, e2, stL_k (by decide)]
  simp [upT, bnd]
  omega
theorem stm_inv {m : Mem} {b : Nat} {S : PS} (hI : Inv m) (hS : InvS kC S) : InvS kC (stS (bk m b) S) ∧ CB (bk m b) (stS (bk m b) S) := stS_inv hS (fun d => hI 5 b d 0)
set_option maxHeartbeats 4000000 in
set_option maxRecDepth 100000 in
theorem c_start_lp (E : Ev) (m : Mem) (j : Nat) (S : PS) (hj : j < 6) (hI : Inv m) (hS : InvS kC S) (n : Nat) (hn : m 1 (2 + j) 0 1 = n) : ∀ (k : Nat) (d : Nat) (D : PS), n - d = k → d ≤ n → D = stL (bk m (2 + j)) (upT (upT (upT S 10 2 0) 10 3 (-1)) 10 13 0) d → T E 3 mX1_start 38 [some (rf E 10 j 0), none, none, some (.int (iI (d : Int)))] [] (hp E (wrC m j D)) (fun r' h' => r' = none ∧ h' = hp E (wrC m j (stS (bk m (2 + j)) S))) := by
  have hn8 : 0 ≤ m 1 (2 + j) 0 1 ∧ m 1 (2 + j) 0 1 ≤ 8 := hI 1 (2 + j) 0 1
  intro k
  induction k using Nat.strongRecOn with
  | ind k ih =>
    intro d D hk hdn hD
    refine T.iload_n dX1_start_38 rfl ?_
    refine T.aload_n dX1_start_39 rfl ?_
    refine T.mget (v := rf E 1 (2 + j) 0) dX1_start_40 fo_X1_12 (ok10 (by omega)) rfl rfl ?_
    refine T.gI (z := m 1 (2 + j) 0 1) dX1_start_43 fo_X1_77 (ok1 (by omega)) rfl rfl rfl ?_
    have q1 : 0 ≤ m 1 (2 + j) 0 1 ∧ m 1 (2 + j) 0 1 ≤ 8 := hI 1 (2 + j) 0 1
    refine T.icmp_ge 106 dX1_start_46 (by unfold rg; omega) (by unfold rg; omega) (fun c2 => ?_) (fun c2 => ?_)
    · exact T.vret dX1_start_106 ⟨rfl, by unfold stS; rw [hD, show ((bk m (2 + j)) 12 0).toNat = d from by show (m 1 (2 + j) 0 1).toNat = d; omega]⟩
    · refine T.aload_n dX1_start_49 rfl ?_
      refine T.mget (v := rf E 11 j 0) dX1_start_50 fo_X1_32 (ok10 (by omega)) rfl rfl ?_
      refine T.iload_n dX1_start_53 rfl ?_
      refine T.aload_n dX1_start_54 rfl ?_
      refine T.mget (v := rf E 1 (2 + j) 0) dX1_start_55 fo_X1_12 (ok10 (by omega)) rfl rfl ?_
      refine T.mget (v := rf E 2 (2 + j) 0) dX1_start_58 fo_X1_80 (ok1 (by omega)) rfl rfl ?_
      refine T.iload_n dX1_start_61 rfl ?_
      refine T.mald (C := RX2) (x := d) dX1_start_62 (ok2 (by omega)) (fun _ => rfl) rfl rfl (by omega) ?_
      refine T.gI (z := m 5 (2 + j) d 0) dX1_start_63 fo_X1_84 (ok5 (by omega) (by omega)) rfl rfl rfl ?_
      have q3 : 0 ≤ m 5 (2 + j) d 0 ∧ m 5 (2 + j) d 0 ≤ 9999 := hI 5 (2 + j) d 0
      refine T.i2l dX1_start_66 (by unfold rg; omega) ?_
      refine T.ldc2 dX1_start_67 kl_X1_89 ?_
      refine T.lmul dX1_start_70 ?_
      refine T.clst (x := d) dX1_start_71 rfl (ok11 (by omega)) (fun _ => rfl) rfl (by omega) ?_
      refine T.aload_n dX1_start_72 rfl ?_
      refine T.mget (v := rf E 12 j 0) dX1_start_73 fo_X1_36 (ok10 (by omega)) rfl rfl ?_
      refine T.iload_n dX1_start_76 rfl ?_
      refine T.lconst0 dX1_start_77 ?_
      refine T.clst (x := d) dX1_start_78 rfl (ok12 (by omega)) (fun _ => rfl) rfl (by omega) ?_
      refine T.aload_n dX1_start_79 rfl ?_
      refine T.mget (v := rf E 13 j 0) dX1_start_80 fo_X1_39 (ok10 (by omega)) rfl rfl ?_
      refine T.iload_n dX1_start_83 rfl ?_
      refine T.iconst dX1_start_84 ?_
      refine T.cist (x := d) dX1_start_85 rfl (ok13 (by omega)) (fun _ => rfl) rfl (by omega) ?_
      refine T.aload_n dX1_start_86 rfl ?_
      refine T.mget (v := rf E 14 j 0) dX1_start_87 fo_X1_43 (ok10 (by omega)) rfl rfl ?_
      refine T.iload_n dX1_start_90 rfl ?_
      refine T.iconst dX1_start_91 ?_
      refine T.cist (x := d) dX1_start_92 rfl (ok14 (by omega)) (fun _ => rfl) rfl (by omega) ?_
      refine T.aload_n dX1_start_93 rfl ?_
      refine T.mget (v := rf E 15 j 0) dX1_start_94 fo_X1_46 (ok10 (by omega)) rfl rfl ?_
      refine T.iload_n dX1_start_97 rfl ?_
      refine T.iconst dX1_start_98 ?_
      refine T.cist (x := d) dX1_start_99 rfl (ok15 (by omega)) (fun _ => rfl) rfl (by omega) ?_
      refine T.iinc (ls' := [some (rf E 10 j 0), none, none, some (.int (iI ((d : Int) + 1)))]) dX1_start_100 rfl rfl ?_
      refine T.goto 38 dX1_start_103 ?_
      exact ih (n - (d + 1)) (by omega) (d + 1) _ rfl (by omega) (by rw [hD]; rfl)
set_option maxHeartbeats 4000000 in
set_option maxRecDepth 100000 in
theorem c_start21 (E : Ev) (m : Mem) (j : Nat) (S : PS) (hj : j < 6) (hI : Inv m) (hS : InvS kC S) : T E 3 mX1_start 21 [some (rf E 10 j 0), none, none, none] [] (hp E (wrC m j S)) (fun r' h' => r' = none ∧ h' = hp E (wrC m j (stS (bk m (2 + j)) S))) := by
  have hn8 : 0 ≤ m 1 (2 + j) 0 1 ∧ m 1 (2 + j) 0 1 ≤ 8 := hI 1 (2 + j) 0 1
  refine T.aload_n dX1_start_21 rfl ?_
  refine T.iconst dX1_start_22 ?_
  refine T.cputI dX1_start_23 fp_X1_25 rfl (ok10 (by omega)) rfl rfl (Nat.le_of_ble_eq_true rfl) ?_
  refine T.aload_n dX1_start_26 rfl ?_
  refine T.iconst dX1_start_27 ?_
  refine T.cputI dX1_start_28 fp_X1_29 rfl (ok10 (by omega)) rfl rfl (Nat.le_of_ble_eq_true rfl) ?_
  refine T.aload_n dX1_start_31 rfl ?_
  refine T.lconst0 dX1_start_32 ?_
  refine T.cputL dX1_start_33 fp_X1_62 rfl (ok10 (by omega)) rfl rfl (Nat.le_of_ble_eq_true rfl) ?_
  refine T.iconst dX1_start_36 ?_
  refine T.istore_n (ls' := [some (rf E 10 j 0), none, none, some (.int (iI 0))]) dX1_start_37 rfl ?_
  exact c_start_lp E m j S hj hI hS _ (Int.toNat_of_nonneg hn8.1).symm _ 0 (upT (upT (upT S 10 2 0) 10 3 (-1)) 10 13 0) rfl (Nat.zero_le _) rfl
set_option maxHeartbeats 4000000 in
set_option maxRecDepth 100000 in
theorem c_start (E : Ev) (m : Mem) (j b0 ln : Nat) (hj : j < 6) (hI : Inv m) (hb0 : b0 < 8) (hne : b0 ≠ 2 + j) (hln : ln < 2) : CT E 3 mX1_start [rf E 10 j 0, rf E 1 b0 0, .int (iI (ln : Int))] (hp E m) (none) (hp E (wrC (stM m j b0 ln) j (stS (bk (stM m j b0 ln) (2 + j)) (fun k => (stM m j b0 ln) k j 0)))) := by
  refine CT.go okX1_start (Nat.le_of_ble_eq_true rfl) ?_
  show T E 3 mX1_start 0 [some (rf E 10 j 0), some (rf E 1 b0 0), some (.int (iI (ln : Int))), none] [] (hp E m) _
  refine T.aload_n dX1_start_0 rfl ?_
  refine T.mget (v := rf E 1 (2 + j) 0) dX1_start_1 fo_X1_12 (ok10 (by omega)) rfl rfl ?_
  refine T.aload_n dX1_start_4 rfl ?_
  refine T.cV0 (As := [rf E 1 b0 0]) (st := []) dX1_start_5 lk_X1_66 (c_cpBk E m (2 + j) b0 (by omega) hb0 hI (by omega)) (ok1 (by omega)) rfl rfl (by decide) rfl rfl (Nat.le_of_ble_eq_true rfl) ?_
  refine T.aload_n dX1_start_8 rfl ?_
  refine T.mget (v := rf E 8 (16 + j) 0) dX1_start_9 fo_X1_21 (ok10 (by omega)) rfl rfl ?_
  refine T.aload_n dX1_start_12 rfl ?_
  refine T.mget (v := rf E 4 b0 0) dX1_start_13 fo_X1_70 (ok1 (by omega)) rfl rfl ?_
  refine T.iload_n dX1_start_16 rfl ?_
  refine T.mald (C := RX3) (x := ln) dX1_start_17 (ok4 (by omega)) (fun _ => rfl) rfl rfl (by omega) ?_
  refine T.cV0 (As := [rf E 8 (2 * b0 + ln) 0]) (st := []) dX1_start_18 lk_X1_74 (c_cpLaw E (cpBk m (2 + j) b0) (16 + j) (2 * b0 + ln) (by omega) (by omega)) (ok8 (by omega)) rfl rfl (by decide) rfl rfl (Nat.le_of_ble_eq_true rfl) ?_
  refine T.fgt (ls' := [some (rf E 10 j 0), none, none, none]) (by simp [lsw]) ?_
  have h0 := c_start21 E (stM m j b0 ln) j (fun k => (stM m j b0 ln) k j 0) hj (Inv.stM hI) ((Inv.stM hI).S kC j)
  rw [wrC_self] at h0
  exact h0
/-- course j stands where course q stands -/
def swS (S T : PS) : PS := setT (setT (setT (setT (setT (upT (upT S 10 2 (T 10 2)) 10 3 (T 10 3)) 11 (fun x => if x < 8 then T 11 x else S 11 x)) 12 (fun x => if x < 8 then T 12 x else S 12 x)) 13 (fun x => if x < 8 then T 13 x else S 13 x)) 14 (fun x => if x < 8 then T 14 x else S 14 x)) 15 (fun x => if x < 8 then T 15 x else S 15 x)
theorem cpS_wrC {m : Mem} {j q : Nat} {S : PS} {k : Nat} (h : kC k = true) (hq : q ≠ j) : cpS (wrC m j S) k j 0 k q 0 8 = wrC m j (setT S k (fun x => if x < 8 then m k q 0 x else S k x)) := by
  unfold cpS
  rw [updS_wrC h, wrC_cf h, wrC_j hq]
set_option maxHeartbeats 4000000 in
set_option maxRecDepth 100000 in
theorem c_standWith (E : Ev) (m : Mem) (j : Nat) (S : PS) (q : Nat) (hj : j < 6) (hq : q < 6) (hqj : q ≠ j) : CT E 1 mX1_standWith [rf E 10 j 0, rf E 10 q 0] (hp E (wrC m j S)) none (hp E (wrC m j (swS S (fun k => m k q 0)))) := by
  refine CT.go okX1_standWith (Nat.le_of_ble_eq_true rfl) ?_
  show T E 1 mX1_standWith 0 [some (rf E 10 j 0), some (rf E 10 q 0)] [] (hp E (wrC m j S)) _
  refine T.aload_n dX1_standWith_0 rfl ?_
  refine T.aload_n dX1_standWith_1 rfl ?_
  refine T.gI (z := m 10 q 0 2) dX1_standWith_2 fo_X1_25 (ok10 (by omega)) rfl rfl (by rw [wrC_j (by omega)]) ?_
  refine T.cputI dX1_standWith_5 fp_X1_25 rfl (ok10 (by omega)) rfl rfl (Nat.le_of_ble_eq_true rfl) ?_
  refine T.aload_n dX1_standWith_8 rfl ?_
  refine T.aload_n dX1_standWith_9 rfl ?_
  refine T.gI (z := m 10 q 0 3) dX1_standWith_10 fo_X1_29 (ok10 (by omega)) rfl rfl (by rw [wrC_j (by omega)]) ?_
  refine T.cputI dX1_standWith_13 fp_X1_29 rfl (ok10 (by omega)) rfl rfl (Nat.le_of_ble_eq_true rfl) ?_
  refine T.aload_n dX1_standWith_16 rfl ?_
  refine T.mget (v := rf E 11 q 0) dX1_standWith_17 fo_X1_32 (ok10 hq) rfl rfl ?_
  refine T.iconst dX1_standWith_20 ?_
  refine T.aload_n dX1_standWith_21 rfl ?_
  refine T.mget (v := rf E 11 j 0) dX1_standWith_22 fo_X1_32 (ok10 hj) rfl rfl ?_
  refine T.iconst dX1_standWith_25 ?_
  refine T.bipush dX1_standWith_26 ?_
  refine T.mcpl (n := 8) dX1_standWith_28 lc_X1_91 (ok11 hj) (fun _ => rfl) (ok11 hq) (fun _ => rfl) rfl rfl rfl (by decide) (by decide) (by decide) (Nat.le_of_ble_eq_true rfl) ?_
  rw [cpS_wrC rfl hqj]
  refine T.aload_n dX1_standWith_31 rfl ?_
  refine T.mget (v := rf E 12 q 0) dX1_standWith_32 fo_X1_36 (ok10 hq) rfl rfl ?_
  refine T.iconst dX1_standWith_35 ?_
  refine T.aload_n dX1_standWith_36 rfl ?_
  refine T.mget (v := rf E 12 j 0) dX1_standWith_37 fo_X1_36 (ok10 hj) rfl rfl ?_
  refine T.iconst dX1_standWith_40 ?_
  refine T.bipush dX1_standWith_41 ?_
  refine T.mcpl (n := 8) dX1_standWith_43 lc_X1_91 (ok12 hj) (fun _ => rfl) (ok12 hq) (fun _ => rfl) rfl rfl rfl (by decide) (by decide) (by decide) (Nat.le_of_ble_eq_true rfl) ?_
  rw [cpS_wrC rfl hqj]
  refine T.aload_n dX1_standWith_46 rfl ?_
  refine T.mget (v := rf E 13 q 0) dX1_standWith_47 fo_X1_39 (ok10 hq) rfl rfl ?_
  refine T.iconst dX1_standWith_50 ?_
  refine T.aload_n dX1_standWith_51 rfl ?_
  refine T.mget (v := rf E 13 j 0) dX1_standWith_52 fo_X1_39 (ok10 hj) rfl rfl ?_
  refine T.iconst dX1_standWith_55 ?_
  refine T.bipush dX1_standWith_56 ?_
  refine T.mcpi (n := 8) dX1_standWith_58 lc_X1_91 (ok13 hj) (fun _ => rfl) (ok13 hq) (fun _ => rfl) rfl rfl rfl (by decide) (by decide) (by decide) (Nat.le_of_ble_eq_true rfl) ?_
  rw [cpS_wrC rfl hqj]
  refine T.aload_n dX1_standWith_61 rfl ?_
  refine T.mget (v := rf E 14 q 0) dX1_standWith_62 fo_X1_43 (ok10 hq) rfl rfl ?_
  refine T.iconst dX1_standWith_65 ?_
  refine T.aload_n dX1_standWith_66 rfl ?_
  refine T.mget (v := rf E 14 j 0) dX1_standWith_67 fo_X1_43 (ok10 hj) rfl rfl ?_
  refine T.iconst dX1_standWith_70 ?_
  refine T.bipush dX1_standWith_71 ?_
  refine T.mcpi (n := 8) dX1_standWith_73 lc_X1_91 (ok14 hj) (fun _ => rfl) (ok14 hq) (fun _ => rfl) rfl rfl rfl (by decide) (by decide) (by decide) (Nat.le_of_ble_eq_true rfl) ?_
  rw [cpS_wrC rfl hqj]
  refine T.aload_n dX1_standWith_76 rfl ?_
  refine T.mget (v := rf E 15 q 0) dX1_standWith_77 fo_X1_46 (ok10 hq) rfl rfl ?_
  refine T.iconst dX1_standWith_80 ?_
  refine T.aload_n dX1_standWith_81 rfl ?_
  refine T.mget (v := rf E 15 j 0) dX1_standWith_82 fo_X1_46 (ok10 hj) rfl rfl ?_
  refine T.iconst dX1_standWith_85 ?_
  refine T.bipush dX1_standWith_86 ?_
  refine T.mcpi (n := 8) dX1_standWith_88 lc_X1_91 (ok15 hj) (fun _ => rfl) (ok15 hq) (fun _ => rfl) rfl rfl rfl (by decide) (by decide) (by decide) (Nat.le_of_ble_eq_true rfl) ?_
  rw [cpS_wrC rfl hqj]
  exact T.vret dX1_standWith_91 ⟨rfl, rfl⟩
