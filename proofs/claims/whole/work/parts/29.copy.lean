def cpDebt (m : Mem) (b b0 d : Nat) : Mem := cpS (up (up m 5 b d 0 (m 5 b0 d 0)) 5 b d 1 (m 5 b0 d 1)) 6 b d 6 b0 d 6
def cpPay (m : Mem) (b b0 p : Nat) : Mem := up (up (up (up m 7 b p 0 (m 7 b0 p 0)) 7 b p 1 (m 7 b0 p 1)) 7 b p 2 (m 7 b0 p 2)) 7 b p 3 (m 7 b0 p 3)
def cpLaw (m : Mem) (q q0 : Nat) : Mem := up (up (cpS m 9 q 0 9 q0 0 10) 8 q 0 1 ((cpS m 9 q 0 9 q0 0 10) 8 q0 0 1)) 8 q 0 2 ((cpS m 9 q 0 9 q0 0 10) 8 q0 0 2)
def cpDs (m : Mem) (b b0 : Nat) : Nat → Mem
  | 0 => m
  | d + 1 => cpDebt (cpDs m b b0 d) b b0 d
def cpPs (m : Mem) (b b0 : Nat) : Nat → Mem
  | 0 => m
  | p + 1 => cpPay (cpPs m b b0 p) b b0 p
def cpB1 (m : Mem) (b b0 : Nat) : Mem := cpDs (up m 1 b 0 1 (m 1 b0 0 1)) b b0 (m 1 b0 0 1).toNat
def cpB2 (m : Mem) (b b0 : Nat) : Mem := cpPs (up (cpB1 m b b0) 1 b 0 3 ((cpB1 m b b0) 1 b0 0 3)) b b0 ((cpB1 m b b0) 1 b0 0 3).toNat
def cpBk (m : Mem) (b b0 : Nat) : Mem := cpLaw (cpLaw (cpB2 m b b0) (2 * b + 0) (2 * b0 + 0)) (2 * b + 1) (2 * b0 + 1)
theorem cpDebt_k {m : Mem} {b b0 d : Nat} {k : Nat} (h : k ≠ 5 ∧ k ≠ 6) : cpDebt m b b0 d k = m k := by
  funext j i x
  simp [cpDebt, cpS, updS, up, h.1, h.2]
theorem cpPay_k {m : Mem} {b b0 d : Nat} {k : Nat} (h : k ≠ 7) : cpPay m b b0 d k = m k := by
  funext j i x
  simp [cpPay, up, h]
theorem cpDs_k {m : Mem} {b b0 : Nat} {k : Nat} (h : k ≠ 5 ∧ k ≠ 6) : ∀ n, cpDs m b b0 n k = m k
  | 0 => rfl
  | n + 1 => (cpDebt_k h).trans (cpDs_k h n)
theorem cpPs_k {m : Mem} {b b0 : Nat} {k : Nat} (h : k ≠ 7) : ∀ n, cpPs m b b0 n k = m k
  | 0 => rfl
  | n + 1 => (cpPay_k h).trans (cpPs_k h n)
set_option maxHeartbeats 4000000 in
set_option maxRecDepth 100000 in
theorem c_cpDebt (E : Ev) (m : Mem) (b b0 d : Nat) (hb : b < 8) (hb0 : b0 < 8) (hd : d < 8) : CT E 1 mX2_copyFrom [rf E 5 b d, rf E 5 b0 d] (hp E m) (none) (hp E (cpDebt m b b0 d)) := by
  refine CT.go okX2_copyFrom (Nat.le_of_ble_eq_true rfl) ?_
  show T E 1 mX2_copyFrom 0 [some (rf E 5 b d), some (rf E 5 b0 d)] [] (hp E m) _
  refine T.aload_n dX2_copyFrom_0 rfl ?_
  refine T.aload_n dX2_copyFrom_1 rfl ?_
  refine T.gI (z := m 5 b0 d 0) dX2_copyFrom_2 fo_X2_15 (ok5 (by omega) (by omega)) rfl rfl rfl ?_
  refine T.mputI dX2_copyFrom_5 fp_X2_15 (ok5 (by omega) (by omega)) rfl rfl (Nat.le_of_ble_eq_true rfl) ?_
  refine T.aload_n dX2_copyFrom_8 rfl ?_
  refine T.aload_n dX2_copyFrom_9 rfl ?_
  refine T.gI (z := m 5 b0 d 1) dX2_copyFrom_10 fo_X2_19 (ok5 (by omega) (by omega)) rfl rfl (by simp [up]) ?_
  refine T.mputI dX2_copyFrom_13 fp_X2_19 (ok5 (by omega) (by omega)) rfl rfl (Nat.le_of_ble_eq_true rfl) ?_
  refine T.aload_n dX2_copyFrom_16 rfl ?_
  refine T.mget (v := rf E 6 b0 d) dX2_copyFrom_17 fo_X2_9 (ok5 (by omega) (by omega)) rfl rfl ?_
  refine T.iconst dX2_copyFrom_20 ?_
  refine T.aload_n dX2_copyFrom_21 rfl ?_
  refine T.mget (v := rf E 6 b d) dX2_copyFrom_22 fo_X2_9 (ok5 (by omega) (by omega)) rfl rfl ?_
  refine T.iconst dX2_copyFrom_25 ?_
  refine T.bipush dX2_copyFrom_26 ?_
  refine T.mcpi (n := 6) dX2_copyFrom_28 lc_X2_22 (ok6 (by omega) (by omega)) (fun _ => rfl) (ok6 (by omega) (by omega)) (fun _ => rfl) rfl rfl rfl (by decide) (by decide) (by decide) (Nat.le_of_ble_eq_true rfl) ?_
  exact T.vret dX2_copyFrom_31 ⟨rfl, rfl⟩
set_option maxHeartbeats 4000000 in
set_option maxRecDepth 100000 in
theorem c_cpPay (E : Ev) (m : Mem) (b b0 p : Nat) (hb : b < 8) (hb0 : b0 < 8) (hq : p < 12) : CT E 1 mX4_copyFrom [rf E 7 b p, rf E 7 b0 p] (hp E m) (none) (hp E (cpPay m b b0 p)) := by
  refine CT.go okX4_copyFrom (Nat.le_of_ble_eq_true rfl) ?_
  show T E 1 mX4_copyFrom 0 [some (rf E 7 b p), some (rf E 7 b0 p)] [] (hp E m) _
  refine T.aload_n dX4_copyFrom_0 rfl ?_
  refine T.aload_n dX4_copyFrom_1 rfl ?_
  refine T.gI (z := m 7 b0 p 0) dX4_copyFrom_2 fo_X4_18 (ok7 (by omega) (by omega)) rfl rfl rfl ?_
  refine T.mputI dX4_copyFrom_5 fp_X4_18 (ok7 (by omega) (by omega)) rfl rfl (Nat.le_of_ble_eq_true rfl) ?_
  refine T.aload_n dX4_copyFrom_8 rfl ?_
  refine T.aload_n dX4_copyFrom_9 rfl ?_
  refine T.gI (z := m 7 b0 p 1) dX4_copyFrom_10 fo_X4_21 (ok7 (by omega) (by omega)) rfl rfl (by simp [up]) ?_
  refine T.mputI dX4_copyFrom_13 fp_X4_21 (ok7 (by omega) (by omega)) rfl rfl (Nat.le_of_ble_eq_true rfl) ?_
  refine T.aload_n dX4_copyFrom_16 rfl ?_
  refine T.aload_n dX4_copyFrom_17 rfl ?_
  refine T.gI (z := m 7 b0 p 2) dX4_copyFrom_18 fo_X4_9 (ok7 (by omega) (by omega)) rfl rfl (by simp [up]) ?_
  refine T.mputI dX4_copyFrom_21 fp_X4_9 (ok7 (by omega) (by omega)) rfl rfl (Nat.le_of_ble_eq_true rfl) ?_
  refine T.aload_n dX4_copyFrom_24 rfl ?_
  refine T.aload_n dX4_copyFrom_25 rfl ?_
  refine T.gI (z := m 7 b0 p 3) dX4_copyFrom_26 fo_X4_15 (ok7 (by omega) (by omega)) rfl rfl (by simp [up]) ?_
  refine T.mputI dX4_copyFrom_29 fp_X4_15 (ok7 (by omega) (by omega)) rfl rfl (Nat.le_of_ble_eq_true rfl) ?_
  exact T.vret dX4_copyFrom_32 ⟨rfl, rfl⟩
set_option maxHeartbeats 4000000 in
set_option maxRecDepth 100000 in
theorem c_cpLaw (E : Ev) (m : Mem) (q q0 : Nat) (hq : q < 22) (hq0 : q0 < 22) : CT E 1 mX3_copyFrom [rf E 8 q 0, rf E 8 q0 0] (hp E m) (none) (hp E (cpLaw m q q0)) := by
  refine CT.go okX3_copyFrom (Nat.le_of_ble_eq_true rfl) ?_
  show T E 1 mX3_copyFrom 0 [some (rf E 8 q 0), some (rf E 8 q0 0)] [] (hp E m) _
  refine T.aload_n dX3_copyFrom_0 rfl ?_
  refine T.mget (v := rf E 9 q0 0) dX3_copyFrom_1 fo_X3_9 (ok8 (by omega)) rfl rfl ?_
  refine T.iconst dX3_copyFrom_4 ?_
  refine T.aload_n dX3_copyFrom_5 rfl ?_
  refine T.mget (v := rf E 9 q 0) dX3_copyFrom_6 fo_X3_9 (ok8 (by omega)) rfl rfl ?_
  refine T.iconst dX3_copyFrom_9 ?_
  refine T.bipush dX3_copyFrom_10 ?_
  refine T.mcpi (n := 10) dX3_copyFrom_12 lc_X3_32 (ok9 (by omega)) (fun _ => rfl) (ok9 (by omega)) (fun _ => rfl) rfl rfl rfl (by decide) (by decide) (by decide) (Nat.le_of_ble_eq_true rfl) ?_
  refine T.aload_n dX3_copyFrom_15 rfl ?_
  refine T.aload_n dX3_copyFrom_16 rfl ?_
  refine T.gI (z := (cpS m 9 q 0 9 q0 0 10) 8 q0 0 1) dX3_copyFrom_17 fo_X3_15 (ok8 (by omega)) rfl rfl rfl ?_
  refine T.mputI dX3_copyFrom_20 fp_X3_15 (ok8 (by omega)) rfl rfl (Nat.le_of_ble_eq_true rfl) ?_
  refine T.aload_n dX3_copyFrom_23 rfl ?_
  refine T.aload_n dX3_copyFrom_24 rfl ?_
  refine T.gI (z := (cpS m 9 q 0 9 q0 0 10) 8 q0 0 2) dX3_copyFrom_25 fo_X3_19 (ok8 (by omega)) rfl rfl (by simp [up]) ?_
  refine T.mputI dX3_copyFrom_28 fp_X3_19 (ok8 (by omega)) rfl rfl (Nat.le_of_ble_eq_true rfl) ?_
  exact T.vret dX3_copyFrom_31 ⟨rfl, rfl⟩
set_option maxHeartbeats 4000000 in
set_option maxRecDepth 100000 in
theorem c_cpB_d (E : Ev) (m : Mem) (b b0 : Nat) (hb : b < 8) (hb0 : b0 < 8) (n : Nat) (hn8 : n ≤ 8) (hn : m 1 b 0 1 = n) (Q : Option Value → Hp → Prop) (hK : T E 2 mX0_copyFrom 39 [some (rf E 1 b 0), some (rf E 1 b0 0), none] [] (hp E (cpDs m b b0 n)) Q) : ∀ (k : Nat) (d : Nat) (D : Mem), n - d = k → d ≤ n → D = cpDs m b b0 d → T E 2 mX0_copyFrom 10 [some (rf E 1 b 0), some (rf E 1 b0 0), some (.int (iI (d : Int)))] [] (hp E D) Q := by
  intro k
  induction k using Nat.strongRecOn with
  | ind k ih =>
    intro d D hk hdn hD
    have e1 : D 1 b 0 1 = n := by rw [hD, cpDs_k (by decide)]; exact hn
    refine T.iload_n dX0_copyFrom_10 rfl ?_
    refine T.aload_n dX0_copyFrom_11 rfl ?_
    refine T.gI (z := D 1 b 0 1) dX0_copyFrom_12 fo_X0_17 (ok1 (by omega)) rfl rfl rfl ?_
    refine T.icmp_ge 39 dX0_copyFrom_15 (by unfold rg; omega) (by unfold rg; omega) (fun c1 => ?_) (fun c1 => ?_)
    · refine T.fgt (ls' := [some (rf E 1 b 0), some (rf E 1 b0 0), none]) (by simp [lsw]) ?_
      obtain rfl : d = n := by omega
      rw [hD]
      exact hK
    · refine T.aload_n dX0_copyFrom_18 rfl ?_
      refine T.mget (v := rf E 2 b 0) dX0_copyFrom_19 fo_X0_11 (ok1 (by omega)) rfl rfl ?_
      refine T.iload_n dX0_copyFrom_22 rfl ?_
      refine T.mald (C := RX2) (x := d) dX0_copyFrom_23 (ok2 (by omega)) (fun _ => rfl) rfl rfl (by omega) ?_
      refine T.aload_n dX0_copyFrom_24 rfl ?_
      refine T.mget (v := rf E 2 b0 0) dX0_copyFrom_25 fo_X0_11 (ok1 (by omega)) rfl rfl ?_
      refine T.iload_n dX0_copyFrom_28 rfl ?_
      refine T.mald (C := RX2) (x := d) dX0_copyFrom_29 (ok2 (by omega)) (fun _ => rfl) rfl rfl (by omega) ?_
      refine T.cV0 (As := [rf E 5 b0 d]) (st := []) dX0_copyFrom_30 lk_X0_55 (c_cpDebt E D b b0 d hb hb0 (by omega)) (ok5 (by omega) (by omega)) rfl rfl (by decide) rfl rfl (Nat.le_of_ble_eq_true rfl) ?_
      refine T.iinc (ls' := [some (rf E 1 b 0), some (rf E 1 b0 0), some (.int (iI ((d : Int) + 1)))]) dX0_copyFrom_33 rfl rfl ?_
      refine T.goto 10 dX0_copyFrom_36 ?_
      exact ih (n - (d + 1)) (by omega) (d + 1) _ rfl (by omega) (by rw [hD]; rfl)
set_option maxHeartbeats 4000000 in
set_option maxRecDepth 100000 in
theorem c_cpB_p (E : Ev) (m : Mem) (b b0 : Nat) (hb : b < 8) (hb0 : b0 < 8) (n : Nat) (hn8 : n ≤ 12) (hn : m 1 b 0 3 = n) (Q : Option Value → Hp → Prop) (hK : T E 2 mX0_copyFrom 78 [some (rf E 1 b 0), some (rf E 1 b0 0), none] [] (hp E (cpPs m b b0 n)) Q) : ∀ (k : Nat) (p : Nat) (D : Mem), n - p = k → p ≤ n → D = cpPs m b b0 p → T E 2 mX0_copyFrom 49 [some (rf E 1 b 0), some (rf E 1 b0 0), some (.int (iI (p : Int)))] [] (hp E D) Q := by
  intro k
  induction k using Nat.strongRecOn with
  | ind k ih =>
    intro p D hk hpn hD
    have e1 : D 1 b 0 3 = n := by rw [hD, cpPs_k (by decide)]; exact hn
    refine T.iload_n dX0_copyFrom_49 rfl ?_
    refine T.aload_n dX0_copyFrom_50 rfl ?_
    refine T.gI (z := D 1 b 0 3) dX0_copyFrom_51 fo_X0_27 (ok1 (by omega)) rfl rfl rfl ?_
    refine T.icmp_ge 78 dX0_copyFrom_54 (by unfold rg; omega) (by unfold rg; omega) (fun c1 => ?_) (fun c1 => ?_)
    · refine T.fgt (ls' := [some (rf E 1 b 0), some (rf E 1 b0 0), none]) (by simp [lsw]) ?_
      obtain rfl : p = n := by omega
      rw [hD]
      exact hK
    · refine T.aload_n dX0_copyFrom_57 rfl ?_
      refine T.mget (v := rf E 3 b 0) dX0_copyFrom_58 fo_X0_23 (ok1 (by omega)) rfl rfl ?_
      refine T.iload_n dX0_copyFrom_61 rfl ?_
      refine T.mald (C := RX4) (x := p) dX0_copyFrom_62 (ok3 (by omega)) (fun _ => rfl) rfl rfl (by omega) ?_
      refine T.aload_n dX0_copyFrom_63 rfl ?_
      refine T.mget (v := rf E 3 b0 0) dX0_copyFrom_64 fo_X0_23 (ok1 (by omega)) rfl rfl ?_
      refine T.iload_n dX0_copyFrom_67 rfl ?_
      refine T.mald (C := RX4) (x := p) dX0_copyFrom_68 (ok3 (by omega)) (fun _ => rfl) rfl rfl (by omega) ?_
      refine T.cV0 (As := [rf E 7 b0 p]) (st := []) dX0_copyFrom_69 lk_X0_59 (c_cpPay E D b b0 p hb hb0 (by omega)) (ok7 (by omega) (by omega)) rfl rfl (by decide) rfl rfl (Nat.le_of_ble_eq_true rfl) ?_
      refine T.iinc (ls' := [some (rf E 1 b 0), some (rf E 1 b0 0), some (.int (iI ((p : Int) + 1)))]) dX0_copyFrom_72 rfl rfl ?_
      refine T.goto 49 dX0_copyFrom_75 ?_
      exact ih (n - (p + 1)) (by omega) (p + 1) _ rfl (by omega) (by rw [hD]; rfl)
set_option maxHeartbeats 4000000 in
set_option maxRecDepth 100000 in
theorem c_cpB_l (E : Ev) (m : Mem) (b b0 : Nat) (hb : b < 8) (hb0 : b0 < 8) : T E 2 mX0_copyFrom 78 [some (rf E 1 b 0), some (rf E 1 b0 0), none] [] (hp E m) (fun r' h' => r' = none ∧ h' = hp E (cpLaw (cpLaw m (2 * b + 0) (2 * b0 + 0)) (2 * b + 1) (2 * b0 + 1))) := by
  refine T.iconst dX0_copyFrom_78 ?_
  refine T.istore_n (ls' := [some (rf E 1 b 0), some (rf E 1 b0 0), some (.int (iI 0))]) dX0_copyFrom_79 rfl ?_
  refine T.iload_n dX0_copyFrom_80 rfl ?_
  refine T.iconst dX0_copyFrom_81 ?_
  refine T.icmp_ge 106 dX0_copyFrom_82 (by unfold rg; omega) (by unfold rg; omega) (fun c1 => ?_) (fun c1 => ?_)
  · exact absurd c1 (by omega)
  · refine T.aload_n dX0_copyFrom_85 rfl ?_
    refine T.mget (v := rf E 4 b 0) dX0_copyFrom_86 fo_X0_32 (ok1 (by omega)) rfl rfl ?_
    refine T.iload_n dX0_copyFrom_89 rfl ?_
    refine T.mald (C := RX3) (x := 0) dX0_copyFrom_90 (ok4 (by omega)) (fun _ => rfl) rfl rfl (by decide) ?_
    refine T.aload_n dX0_copyFrom_91 rfl ?_
    refine T.mget (v := rf E 4 b0 0) dX0_copyFrom_92 fo_X0_32 (ok1 (by omega)) rfl rfl ?_
    refine T.iload_n dX0_copyFrom_95 rfl ?_
    refine T.mald (C := RX3) (x := 0) dX0_copyFrom_96 (ok4 (by omega)) (fun _ => rfl) rfl rfl (by decide) ?_
    refine T.cV0 (As := [rf E 8 (2 * b0 + 0) 0]) (st := []) dX0_copyFrom_97 lk_X0_62 (c_cpLaw E m (2 * b + 0) (2 * b0 + 0) (by omega) (by omega)) (ok8 (by omega)) rfl rfl (by decide) rfl rfl (Nat.le_of_ble_eq_true rfl) ?_
    refine T.iinc (ls' := [some (rf E 1 b 0), some (rf E 1 b0 0), some (.int (iI (0 + 1)))]) dX0_copyFrom_100 rfl rfl ?_
    refine T.goto 80 dX0_copyFrom_103 ?_
    refine T.iload_n dX0_copyFrom_80 rfl ?_
    refine T.iconst dX0_copyFrom_81 ?_
    refine T.icmp_ge 106 dX0_copyFrom_82 (by unfold rg; omega) (by unfold rg; omega) (fun c2 => ?_) (fun c2 => ?_)
    · exact absurd c2 (by omega)
    · refine T.aload_n dX0_copyFrom_85 rfl ?_
      refine T.mget (v := rf E 4 b 0) dX0_copyFrom_86 fo_X0_32 (ok1 (by omega)) rfl rfl ?_
      refine T.iload_n dX0_copyFrom_89 rfl ?_
      refine T.mald (C := RX3) (x := 1) dX0_copyFrom_90 (ok4 (by omega)) (fun _ => rfl) rfl rfl (by decide) ?_
      refine T.aload_n dX0_copyFrom_91 rfl ?_
      refine T.mget (v := rf E 4 b0 0) dX0_copyFrom_92 fo_X0_32 (ok1 (by omega)) rfl rfl ?_
      refine T.iload_n dX0_copyFrom_95 rfl ?_
      refine T.mald (C := RX3) (x := 1) dX0_copyFrom_96 (ok4 (by omega)) (fun _ => rfl) rfl rfl (by decide) ?_
      refine T.cV0 (As := [rf E 8 (2 * b0 + 1) 0]) (st := []) dX0_copyFrom_97 lk_X0_62 (c_cpLaw E (cpLaw m (2 * b + 0) (2 * b0 + 0)) (2 * b + 1) (2 * b0 + 1) (by omega) (by omega)) (ok8 (by omega)) rfl rfl (by decide) rfl rfl (Nat.le_of_ble_eq_true rfl) ?_
      refine T.iinc (ls' := [some (rf E 1 b 0), some (rf E 1 b0 0), some (.int (iI (0 + 1 + 1)))]) dX0_copyFrom_100 rfl rfl ?_
      refine T.goto 80 dX0_copyFrom_103 ?_
      refine T.iload_n dX0_copyFrom_80 rfl ?_
      refine T.iconst dX0_copyFrom_81 ?_
      refine T.icmp_ge 106 dX0_copyFrom_82 (by unfold rg; omega) (by unfold rg; omega) (fun c3 => ?_) (fun c3 => ?_)
      · exact T.vret dX0_copyFrom_106 ⟨rfl, rfl⟩
      · exact absurd c3 (by omega)
set_option maxHeartbeats 4000000 in
set_option maxRecDepth 100000 in
theorem c_cpB_39 (E : Ev) (m : Mem) (b b0 : Nat) (hb : b < 8) (hb0 : b0 < 8) (hI : Inv m) (hne : b ≠ b0) : T E 2 mX0_copyFrom 39 [some (rf E 1 b 0), some (rf E 1 b0 0), none] [] (hp E (cpB1 m b b0)) (fun r' h' => r' = none ∧ h' = hp E (cpBk m b b0)) := by
  have h3 : (cpB1 m b b0) 1 b0 0 3 = m 1 b0 0 3 := by unfold cpB1; rw [cpDs_k (by decide)]; simp [up]
  have h4 : 0 ≤ m 1 b0 0 3 ∧ m 1 b0 0 3 ≤ 12 := hI 1 b0 0 3
  refine T.aload_n dX0_copyFrom_39 rfl ?_
  refine T.aload_n dX0_copyFrom_40 rfl ?_
  refine T.gI (z := (cpB1 m b b0) 1 b0 0 3) dX0_copyFrom_41 fo_X0_27 (ok1 (by omega)) rfl rfl rfl ?_
  refine T.mputI dX0_copyFrom_44 fp_X0_27 (ok1 (by omega)) rfl rfl (Nat.le_of_ble_eq_true rfl) ?_
  refine T.iconst dX0_copyFrom_47 ?_
  refine T.istore_n (ls' := [some (rf E 1 b 0), some (rf E 1 b0 0), some (.int (iI 0))]) dX0_copyFrom_48 rfl ?_
  refine c_cpB_p E (up (cpB1 m b b0) 1 b 0 3 ((cpB1 m b b0) 1 b0 0 3)) b b0 hb hb0 ((cpB1 m b b0) 1 b0 0 3).toNat (by omega) (by rw [up_self]; omega) _ ?_ _ 0 _ rfl (Nat.zero_le _) rfl
  exact c_cpB_l E (cpB2 m b b0) b b0 hb hb0
set_option maxHeartbeats 4000000 in
set_option maxRecDepth 100000 in
theorem c_cpBk (E : Ev) (m : Mem) (b b0 : Nat) (hb : b < 8) (hb0 : b0 < 8) (hI : Inv m) (hne : b ≠ b0) : CT E 2 mX0_copyFrom [rf E 1 b 0, rf E 1 b0 0] (hp E m) (none) (hp E (cpBk m b b0)) := by
  refine CT.go okX0_copyFrom (Nat.le_of_ble_eq_true rfl) ?_
  show T E 2 mX0_copyFrom 0 [some (rf E 1 b 0), some (rf E 1 b0 0), none] [] (hp E m) _
  refine T.aload_n dX0_copyFrom_0 rfl ?_
  refine T.aload_n dX0_copyFrom_1 rfl ?_
  refine T.gI (z := m 1 b0 0 1) dX0_copyFrom_2 fo_X0_17 (ok1 (by omega)) rfl rfl rfl ?_
  have q1 : 0 ≤ m 1 b0 0 1 ∧ m 1 b0 0 1 ≤ 8 := hI 1 b0 0 1
  refine T.mputI dX0_copyFrom_5 fp_X0_17 (ok1 (by omega)) rfl rfl (Nat.le_of_ble_eq_true rfl) ?_
  refine T.iconst dX0_copyFrom_8 ?_
  refine T.istore_n (ls' := [some (rf E 1 b 0), some (rf E 1 b0 0), some (.int (iI 0))]) dX0_copyFrom_9 rfl ?_
  refine c_cpB_d E (up m 1 b 0 1 (m 1 b0 0 1)) b b0 hb hb0 (m 1 b0 0 1).toNat (by omega) (by rw [up_self]; omega) _ ?_ _ 0 _ rfl (Nat.zero_le _) rfl
  show T E 2 mX0_copyFrom 39 _ _ (hp E (cpB1 m b b0)) _
  exact c_cpB_39 E m b b0 hb hb0 hI hne
