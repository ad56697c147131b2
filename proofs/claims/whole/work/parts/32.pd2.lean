/-- what the class's questions leave as it was -/
def core (k j : Nat) : Bool := if k = 1 ∨ k = 5 ∨ k = 6 ∨ k = 7 then decide (j < 2) else if k = 8 ∨ k = 9 then decide (j < 4) else decide (k < 10 ∨ 23 < k)
theorem cpS_o {m : Mem} {k j i k0 j0 i0 n k' j' i' : Nat} (h : k' ≠ k ∨ j' ≠ j) : cpS m k j i k0 j0 i0 n k' j' i' = m k' j' i' := by
  unfold cpS updS
  rw [if_neg (by omega)]
theorem up_o {m : Mem} {k j i x : Nat} {v : Int} {k' j' i' : Nat} (h : k' ≠ k ∨ j' ≠ j) : up m k j i x v k' j' i' = m k' j' i' := by
  funext x'
  unfold up
  rw [if_neg (by omega)]
theorem cpDebt_o {m : Mem} {b b0 d k j i : Nat} (h : (k ≠ 5 ∧ k ≠ 6) ∨ j ≠ b) : cpDebt m b b0 d k j i = m k j i := by
  unfold cpDebt
  rw [cpS_o (by omega), up_o (by omega), up_o (by omega)]
theorem cpPay_o {m : Mem} {b b0 d k j i : Nat} (h : k ≠ 7 ∨ j ≠ b) : cpPay m b b0 d k j i = m k j i := by
  unfold cpPay
  rw [up_o h, up_o h, up_o h, up_o h]
theorem cpLaw_o {m : Mem} {q q0 k j i : Nat} (h : (k ≠ 8 ∧ k ≠ 9) ∨ j ≠ q) : cpLaw m q q0 k j i = m k j i := by
  unfold cpLaw
  rw [up_o (by omega), up_o (by omega), cpS_o (by omega)]
theorem cpDs_o {m : Mem} {b b0 k j i : Nat} (h : (k ≠ 5 ∧ k ≠ 6) ∨ j ≠ b) : ∀ n, cpDs m b b0 n k j i = m k j i
  | 0 => rfl
  | n + 1 => (cpDebt_o h).trans (cpDs_o h n)
theorem cpPs_o {m : Mem} {b b0 k j i : Nat} (h : k ≠ 7 ∨ j ≠ b) : ∀ n, cpPs m b b0 n k j i = m k j i
  | 0 => rfl
  | n + 1 => (cpPay_o h).trans (cpPs_o h n)
theorem cpB1_o {m : Mem} {b b0 k j i : Nat} (h : (k ≠ 1 ∧ k ≠ 5 ∧ k ≠ 6) ∨ j ≠ b) : cpB1 m b b0 k j i = m k j i := by
  unfold cpB1
  rw [cpDs_o (by omega), up_o (by omega)]
theorem cpB2_o {m : Mem} {b b0 k j i : Nat} (h : (k ≠ 1 ∧ k ≠ 5 ∧ k ≠ 6 ∧ k ≠ 7) ∨ j ≠ b) : cpB2 m b b0 k j i = m k j i := by
  unfold cpB2
  rw [cpPs_o (by omega), up_o (by omega), cpB1_o (by omega)]
theorem cpBk_o {m : Mem} {b b0 k j i : Nat} (h1 : (k ≠ 1 ∧ k ≠ 5 ∧ k ≠ 6 ∧ k ≠ 7) ∨ j ≠ b) (h2 : (k ≠ 8 ∧ k ≠ 9) ∨ (j ≠ 2 * b ∧ j ≠ 2 * b + 1)) : cpBk m b b0 k j i = m k j i := by
  unfold cpBk
  rw [cpLaw_o (by omega), cpLaw_o (by omega), cpB2_o (by omega)]
theorem stM_core {m : Mem} {c b0 ln k j i : Nat} (h : core k j = true) : stM m c b0 ln k j i = m k j i := by
  unfold core at h
  unfold stM
  rw [cpLaw_o, cpBk_o]
  · by_cases e1 : k = 1 ∨ k = 5 ∨ k = 6 ∨ k = 7
    · rw [if_pos e1] at h
      have : j < 2 := by simpa using h
      omega
    · omega
  · by_cases e1 : k = 1 ∨ k = 5 ∨ k = 6 ∨ k = 7
    · omega
    · by_cases e2 : k = 8 ∨ k = 9
      · rw [if_neg e1, if_pos e2] at h
        have : j < 4 := by simpa using h
        omega
      · omega
  · by_cases e1 : k = 1 ∨ k = 5 ∨ k = 6 ∨ k = 7
    · omega
    · by_cases e2 : k = 8 ∨ k = 9
      · rw [if_neg e1, if_pos e2] at h
        have : j < 4 := by simpa using h
        omega
      · omega
theorem wrC_core {m : Mem} {c k j i : Nat} {S : PS} (h : core k j = true) : wrC m c S k j i = m k j i := by
  apply wrC_d
  unfold core at h
  unfold kC
  by_cases e1 : k = 1 ∨ k = 5 ∨ k = 6 ∨ k = 7
  · simp; omega
  · by_cases e2 : k = 8 ∨ k = 9
    · simp; omega
    · rw [if_neg e1, if_neg e2] at h
      have : k < 10 ∨ 23 < k := by simpa using h
      simp; omega
def Core (m m' : Mem) : Prop := ∀ k j i, core k j = true → m' k j i = m k j i
theorem Core.rf {m : Mem} : Core m m := fun _ _ _ _ => rfl
theorem Core.tr {a b c : Mem} (h1 : Core a b) (h2 : Core b c) : Core a c := fun k j i h => (h2 k j i h).trans (h1 k j i h)
noncomputable def qS (m : Mem) (ln : Nat) (y : Int) : PS := gbS (bk (stM m 0 0 ln) (2 + 0)) (lw (stM m 0 0 ln) (16 + 0)) (stS (bk (stM m 0 0 ln) (2 + 0)) (fun k => stM m 0 0 ln k 0 0)) y
noncomputable def qM (m : Mem) (ln : Nat) (y : Int) : Mem := wrC (stM m 0 0 ln) 0 (qS m ln y)
abbrev qB (m : Mem) (ln : Nat) : PS := bk (stM m 0 0 ln) (2 + 0)
theorem st_inv {m : Mem} {j b0 ln : Nat} (hI : Inv m) : InvS kC (stS (bk (stM m j b0 ln) (2 + j)) (fun k => stM m j b0 ln k j 0)) ∧ CB (bk (stM m j b0 ln) (2 + j)) (stS (bk (stM m j b0 ln) (2 + j)) (fun k => stM m j b0 ln k j 0)) := stm_inv (Inv.stM hI) ((Inv.stM hI).S kC j)
theorem qS_inv {m : Mem} {ln : Nat} {y : Int} (hI : Inv m) (hy : y ≤ 299) : InvS kC (qS m ln y) ∧ CB (qB m ln) (qS m ln y) := gbm_inv (Inv.stM hI) (st_inv hI).1 (st_inv hI).2 hy
theorem qM_inv {m : Mem} {ln : Nat} {y : Int} (hI : Inv m) (hy : y ≤ 299) : Inv (qM m ln y) := (Inv.stM hI).wrC (qS_inv hI hy).1
theorem qM_core {m : Mem} {ln : Nat} {y : Int} : Core m (qM m ln y) := fun k j i h => (wrC_core h).trans (stM_core h)
set_option maxHeartbeats 4000000 in
set_option maxRecDepth 100000 in
theorem c_pgb (E : Ev) (m : Mem) (ln : Nat) (y : Int) (hI : Inv m) (hln : ln < 2) (hy : -1 ≤ y ∧ y ≤ 299) : CT E 7 mX8_goBehind [rf E 0 0 0, .int (iI (ln : Int)), .int (iI y)] (hp E m) (none) (hp E (qM m ln y)) := by
  refine CT.go okX8_goBehind (Nat.le_of_ble_eq_true rfl) ?_
  show T E 7 mX8_goBehind 0 [some (rf E 0 0 0), some (.int (iI (ln : Int))), some (.int (iI y))] [] (hp E m) _
  refine T.aload_n dX8_goBehind_0 rfl ?_
  refine T.mget (v := rf E 10 0 0) dX8_goBehind_1 fo_X8_26 ok0 rfl rfl ?_
  refine T.aload_n dX8_goBehind_4 rfl ?_
  refine T.mget (v := rf E 1 0 0) dX8_goBehind_5 fo_X8_10 ok0 rfl rfl ?_
  refine T.iload_n dX8_goBehind_8 rfl ?_
  refine T.cV0 (As := [rf E 1 0 0, .int (iI (ln : Int))]) (st := []) dX8_goBehind_9 lk_X8_193 (c_start E m 0 0 ln (by decide) hI (by decide) (by decide) hln) (ok10 (by decide)) rfl rfl (by decide) rfl rfl (Nat.le_of_ble_eq_true rfl) ?_
  refine T.aload_n dX8_goBehind_12 rfl ?_
  refine T.mget (v := rf E 10 0 0) dX8_goBehind_13 fo_X8_26 ok0 rfl rfl ?_
  refine T.iload_n dX8_goBehind_16 rfl ?_
  refine T.cV0 (As := [.int (iI y)]) (st := []) dX8_goBehind_17 lk_X8_255 (c_goBehind E (stM m 0 0 ln) 0 (stS (bk (stM m 0 0 ln) (2 + 0)) (fun k => (stM m 0 0 ln) k 0 0)) y (by decide) (Inv.stM hI) (st_inv hI).1 (st_inv hI).2 hy) (ok10 (by decide)) rfl rfl (by decide) rfl rfl (Nat.le_of_ble_eq_true rfl) ?_
  exact T.vret dX8_goBehind_20 ⟨rfl, rfl⟩
noncomputable def leftR (m : Mem) (l d y t : Int) : Int := if ¬ ((0 ≤ l ∧ l ≤ 1) ∧ (0 ≤ d ∧ d ≤ m 1 0 0 1 - 1) ∧ (0 ≤ y ∧ y ≤ 299) ∧ (0 ≤ t ∧ t ≤ 2)) then -1 else if t = 0 then (if (stM m 0 0 l.toNat) 5 (2 + 0) d.toNat 1 ≤ (qS m l.toNat y) 10 2 then (qS m l.toNat y) 11 d.toNat else 0) else if t = 1 then (if (stM m 0 0 l.toNat) 5 (2 + 0) d.toNat 1 ≤ (qS m l.toNat y) 10 2 then (qS m l.toNat y) 12 d.toNat else 0) else leftS (qB m l.toNat) (qS m l.toNat y) d.toNat
noncomputable def leftM (m : Mem) (l d y t : Int) : Mem := if ¬ ((0 ≤ l ∧ l ≤ 1) ∧ (0 ≤ d ∧ d ≤ m 1 0 0 1 - 1) ∧ (0 ≤ y ∧ y ≤ 299) ∧ (0 ≤ t ∧ t ≤ 2)) then m else if t = 0 then qM m l.toNat y else if t = 1 then qM m l.toNat y else qM m l.toNat y
set_option maxHeartbeats 4000000 in
set_option maxRecDepth 100000 in
theorem c_left (E : Ev) (m : Mem) (l d y t : Int) (hI : Inv m) (h1 : rg l) (h2 : rg d) (h3 : rg y) (h4 : rg t) : CT E 8 mX8_left [rf E 0 0 0, .int (iI l), .int (iI d), .int (iI y), .int (iI t)] (hp E m) (some (.long (lI (leftR m l d y t)))) (hp E (leftM m l d y t)) := by
  refine CT.go okX8_left (Nat.le_of_ble_eq_true rfl) ?_
  show T E 8 mX8_left 0 [some (rf E 0 0 0), some (.int (iI l)), some (.int (iI d)), some (.int (iI y)), some (.int (iI t))] [] (hp E m) _
  unfold rg at h1 h2 h3 h4
  refine T.iload_n dX8_left_0 rfl ?_
  refine T.cS1 (As := [.int (iI l)]) (st := []) dX8_left_1 lk_X8_153 (c_isLaw E _ (by unfold rg; omega)) (by decide) rfl rfl (Nat.le_of_ble_eq_true rfl) ?_
  refine T.ifB_eq 32 dX8_left_4 (fun c1 => ?_) (fun c1 => ?_)
  · refine T.ldc2 dX8_left_32 kl_X8_174 ?_
    exact T.lret dX8_left_35 ⟨congrArg (fun z => some (Value.long (lI z))) (Eq.symm (show leftR m l d y t = (-1) from by unfold leftR; rw [if_pos (by omega)] <;> first | rfl | omega)), congrArg (hp E) (Eq.symm (show leftM m l d y t = m from by unfold leftM; rw [if_pos (by omega)] <;> rfl))⟩
  · refine T.aload_n dX8_left_7 rfl ?_
    refine T.iload_n dX8_left_8 rfl ?_
    refine T.cV1 (As := [.int (iI d)]) (st := []) dX8_left_9 lk_X8_76 (c_isDebt E m hI (by unfold rg; omega)) ok0 rfl rfl (by decide) rfl rfl (Nat.le_of_ble_eq_true rfl) ?_
    have n2 : (0 ≤ m 1 0 0 1 ∧ m 1 0 0 1 ≤ 8) ∧ 0 ≤ m 1 0 0 3 ∧ m 1 0 0 3 ≤ 12 := ⟨hI 1 0 0 1, hI 1 0 0 3⟩
    refine T.ifB_eq 32 dX8_left_12 (fun c3 => ?_) (fun c3 => ?_)
    · refine T.ldc2 dX8_left_32 kl_X8_174 ?_
      exact T.lret dX8_left_35 ⟨congrArg (fun z => some (Value.long (lI z))) (Eq.symm (show leftR m l d y t = (-1) from by unfold leftR; rw [if_pos (by omega)] <;> first | rfl | omega)), congrArg (hp E) (Eq.symm (show leftM m l d y t = m from by unfold leftM; rw [if_pos (by omega)] <;> rfl))⟩
    · refine T.iload_n dX8_left_15 rfl ?_
      refine T.cS1 (As := [.int (iI y)]) (st := []) dX8_left_16 lk_X8_58 (c_isDay E _ (by unfold rg; omega)) (by decide) rfl rfl (Nat.le_of_ble_eq_true rfl) ?_
      refine T.ifB_eq 32 dX8_left_19 (fun c4 => ?_) (fun c4 => ?_)
      · refine T.ldc2 dX8_left_32 kl_X8_174 ?_
        exact T.lret dX8_left_35 ⟨congrArg (fun z => some (Value.long (lI z))) (Eq.symm (show leftR m l d y t = (-1) from by unfold leftR; rw [if_pos (by omega)] <;> first | rfl | omega)), congrArg (hp E) (Eq.symm (show leftM m l d y t = m from by unfold leftM; rw [if_pos (by omega)] <;> rfl))⟩
      · refine T.iload dX8_left_22 rfl ?_
        refine T.iconst dX8_left_24 ?_
        refine T.iconst dX8_left_25 ?_
        refine T.cS1 (As := [.int (iI t), .int (iI 0), .int (iI 2)]) (st := []) dX8_left_26 lk_X8_54 (c_within E _ (by unfold rg; omega) (by unfold rg; omega) (by unfold rg; omega)) (by decide) rfl rfl (Nat.le_of_ble_eq_true rfl) ?_
        refine T.ifB_ne 36 dX8_left_29 (fun c5 => ?_) (fun c5 => ?_)
        · refine T.aload_n dX8_left_36 rfl ?_
          refine T.iload_n dX8_left_37 rfl ?_
          refine T.iload_n dX8_left_38 rfl ?_
          refine T.cV0 (As := [.int (iI l), .int (iI y)]) (st := []) dX8_left_39 lk_X8_176 (by have h0 := c_pgb E m l.toNat y hI (by omega) (by omega); rw [show ((l.toNat : Nat) : Int) = l from by omega] at h0; exact h0) ok0 rfl rfl (by decide) rfl rfl (Nat.le_of_ble_eq_true rfl) ?_
          refine T.iload dX8_left_42 rfl ?_
          refine T.if_ne 58 dX8_left_44 (by unfold rg; omega) (fun c6 => ?_) (fun c6 => ?_)
          · refine T.iload dX8_left_58 rfl ?_
            refine T.iconst dX8_left_60 ?_
            refine T.icmp_ne 75 dX8_left_61 (by unfold rg; omega) (by unfold rg; omega) (fun c7 => ?_) (fun c7 => ?_)
            · refine T.aload_n dX8_left_75 rfl ?_
              refine T.mget (v := rf E 10 0 0) dX8_left_76 fo_X8_26 ok0 rfl rfl ?_
              refine T.iload_n dX8_left_79 rfl ?_
              refine T.cV1 (As := [.int (iI d)]) (st := []) dX8_left_80 lk_X8_186 (by have h0 := c_leftOf E (stM m 0 0 l.toNat) 0 (qS m l.toNat y) d.toNat (by decide) (Inv.stM hI) (qS_inv hI (by omega)).1 (by omega); rw [show ((d.toNat : Nat) : Int) = d from by omega] at h0; exact h0) (ok10 (by decide)) rfl rfl (by decide) rfl rfl (Nat.le_of_ble_eq_true rfl) ?_
              exact T.lret dX8_left_83 ⟨congrArg (fun z => some (Value.long (lI z))) (Eq.symm (show leftR m l d y t = leftS (qB m l.toNat) (qS m l.toNat y) d.toNat from by unfold leftR; rw [if_neg (by omega), if_neg (by omega), if_neg (by omega)] <;> first | rfl | omega)), congrArg (hp E) (Eq.symm (show leftM m l d y t = (wrC (stM m 0 0 l.toNat) 0 (qS m l.toNat y)) from by unfold leftM; rw [if_neg (by omega), if_neg (by omega), if_neg (by omega)] <;> rfl))⟩
            · refine T.aload_n dX8_left_64 rfl ?_
              refine T.mget (v := rf E 10 0 0) dX8_left_65 fo_X8_26 ok0 rfl rfl ?_
              refine T.iload_n dX8_left_68 rfl ?_
              refine T.cV1 (As := [.int (iI d)]) (st := []) dX8_left_69 lk_X8_183 (by have h0 := c_runLeft E (stM m 0 0 l.toNat) 0 (qS m l.toNat y) d.toNat (by decide) (Inv.stM hI) (qS_inv hI (by omega)).1 (by omega); rw [show ((d.toNat : Nat) : Int) = d from by omega] at h0; exact h0) (ok10 (by decide)) rfl rfl (by decide) rfl rfl (Nat.le_of_ble_eq_true rfl) ?_
              refine T.goto 83 dX8_left_72 ?_
              exact T.lret dX8_left_83 ⟨congrArg (fun z => some (Value.long (lI z))) (Eq.symm (show leftR m l d y t = if (stM m 0 0 l.toNat) 5 (2 + 0) d.toNat 1 ≤ (qS m l.toNat y) 10 2 then (qS m l.toNat y) 12 d.toNat else 0 from by unfold leftR; rw [if_neg (by omega), if_neg (by omega), if_pos (by omega)] <;> first | rfl | omega)), congrArg (hp E) (Eq.symm (show leftM m l d y t = (wrC (stM m 0 0 l.toNat) 0 (qS m l.toNat y)) from by unfold leftM; rw [if_neg (by omega), if_neg (by omega), if_pos (by omega)] <;> rfl))⟩
          · refine T.aload_n dX8_left_47 rfl ?_
            refine T.mget (v := rf E 10 0 0) dX8_left_48 fo_X8_26 ok0 rfl rfl ?_
            refine T.iload_n dX8_left_51 rfl ?_
            refine T.cV1 (As := [.int (iI d)]) (st := []) dX8_left_52 lk_X8_179 (by have h0 := c_sumLeft E (stM m 0 0 l.toNat) 0 (qS m l.toNat y) d.toNat (by decide) (Inv.stM hI) (qS_inv hI (by omega)).1 (by omega); rw [show ((d.toNat : Nat) : Int) = d from by omega] at h0; exact h0) (ok10 (by decide)) rfl rfl (by decide) rfl rfl (Nat.le_of_ble_eq_true rfl) ?_
            refine T.goto 83 dX8_left_55 ?_
            exact T.lret dX8_left_83 ⟨congrArg (fun z => some (Value.long (lI z))) (Eq.symm (show leftR m l d y t = if (stM m 0 0 l.toNat) 5 (2 + 0) d.toNat 1 ≤ (qS m l.toNat y) 10 2 then (qS m l.toNat y) 11 d.toNat else 0 from by unfold leftR; rw [if_neg (by omega), if_pos (by omega)] <;> first | rfl | omega)), congrArg (hp E) (Eq.symm (show leftM m l d y t = (wrC (stM m 0 0 l.toNat) 0 (qS m l.toNat y)) from by unfold leftM; rw [if_neg (by omega), if_pos (by omega)] <;> rfl))⟩
        · refine T.ldc2 dX8_left_32 kl_X8_174 ?_
          exact T.lret dX8_left_35 ⟨congrArg (fun z => some (Value.long (lI z))) (Eq.symm (show leftR m l d y t = (-1) from by unfold leftR; rw [if_pos (by omega)] <;> first | rfl | omega)), congrArg (hp E) (Eq.symm (show leftM m l d y t = m from by unfold leftM; rw [if_pos (by omega)] <;> rfl))⟩
noncomputable def owedR (m : Mem) (l y : Int) : Int := if ¬ ((0 ≤ l ∧ l ≤ 1) ∧ (0 ≤ y ∧ y ≤ 299)) then -1 else owedL (qB m l.toNat) (qS m l.toNat y) ((stM m 0 0 l.toNat) 1 (2 + 0) 0 1).toNat
noncomputable def owedM (m : Mem) (l y : Int) : Mem := if ¬ ((0 ≤ l ∧ l ≤ 1) ∧ (0 ≤ y ∧ y ≤ 299)) then m else qM m l.toNat y
set_option maxHeartbeats 4000000 in
set_option maxRecDepth 100000 in
theorem c_owed (E : Ev) (m : Mem) (l y : Int) (hI : Inv m) (h1 : rg l) (h3 : rg y) : CT E 8 mX8_owed [rf E 0 0 0, .int (iI l), .int (iI y)] (hp E m) (some (.long (lI (owedR m l y)))) (hp E (owedM m l y)) := by
  refine CT.go okX8_owed (Nat.le_of_ble_eq_true rfl) ?_
  show T E 8 mX8_owed 0 [some (rf E 0 0 0), some (.int (iI l)), some (.int (iI y))] [] (hp E m) _
  unfold rg at h1 h3
  refine T.iload_n dX8_owed_0 rfl ?_
  refine T.cS1 (As := [.int (iI l)]) (st := []) dX8_owed_1 lk_X8_153 (c_isLaw E _ (by unfold rg; omega)) (by decide) rfl rfl (Nat.le_of_ble_eq_true rfl) ?_
  refine T.ifB_eq 14 dX8_owed_4 (fun c1 => ?_) (fun c1 => ?_)
  · refine T.ldc2 dX8_owed_14 kl_X8_174 ?_
    exact T.lret dX8_owed_17 ⟨congrArg (fun z => some (Value.long (lI z))) (Eq.symm (show owedR m l y = (-1) from by unfold owedR; rw [if_pos (by omega)] <;> first | rfl | omega)), congrArg (hp E) (Eq.symm (show owedM m l y = m from by unfold owedM; rw [if_pos (by omega)] <;> rfl))⟩
  · refine T.iload_n dX8_owed_7 rfl ?_
    refine T.cS1 (As := [.int (iI y)]) (st := []) dX8_owed_8 lk_X8_58 (c_isDay E _ (by unfold rg; omega)) (by decide) rfl rfl (Nat.le_of_ble_eq_true rfl) ?_
    refine T.ifB_ne 18 dX8_owed_11 (fun c2 => ?_) (fun c2 => ?_)
    · refine T.aload_n dX8_owed_18 rfl ?_
      refine T.iload_n dX8_owed_19 rfl ?_
      refine T.iload_n dX8_owed_20 rfl ?_
      refine T.cV0 (As := [.int (iI l), .int (iI y)]) (st := []) dX8_owed_21 lk_X8_176 (by have h0 := c_pgb E m l.toNat y hI (by omega) (by omega); rw [show ((l.toNat : Nat) : Int) = l from by omega] at h0; exact h0) ok0 rfl rfl (by decide) rfl rfl (Nat.le_of_ble_eq_true rfl) ?_
      refine T.aload_n dX8_owed_24 rfl ?_
      refine T.mget (v := rf E 10 0 0) dX8_owed_25 fo_X8_26 ok0 rfl rfl ?_
      refine T.cV1 (As := []) (st := []) dX8_owed_28 lk_X8_189 (c_owedNow E (stM m 0 0 l.toNat) 0 (qS m l.toNat y) (by decide) (Inv.stM hI) (qS_inv hI (by omega)).1) (ok10 (by decide)) rfl rfl (by decide) rfl rfl (Nat.le_of_ble_eq_true rfl) ?_
      exact T.lret dX8_owed_31 ⟨congrArg (fun z => some (Value.long (lI z))) (Eq.symm (show owedR m l y = owedL (qB m l.toNat) (qS m l.toNat y) ((stM m 0 0 l.toNat) 1 (2 + 0) 0 1).toNat from by unfold owedR; rw [if_neg (by omega)] <;> first | rfl | omega)), congrArg (hp E) (Eq.symm (show owedM m l y = (wrC (stM m 0 0 l.toNat) 0 (qS m l.toNat y)) from by unfold owedM; rw [if_neg (by omega)] <;> rfl))⟩
    · refine T.ldc2 dX8_owed_14 kl_X8_174 ?_
      exact T.lret dX8_owed_17 ⟨congrArg (fun z => some (Value.long (lI z))) (Eq.symm (show owedR m l y = (-1) from by unfold owedR; rw [if_pos (by omega)] <;> first | rfl | omega)), congrArg (hp E) (Eq.symm (show owedM m l y = m from by unfold owedM; rw [if_pos (by omega)] <;> rfl))⟩
noncomputable def paidR (m : Mem) (l d : Int) : Int := if ¬ ((0 ≤ l ∧ l ≤ 1) ∧ (0 ≤ d ∧ d ≤ m 1 0 0 1 - 1)) then -1 else (if qS m l.toNat 299 14 d.toNat = -1 then -4 else qS m l.toNat 299 14 d.toNat)
noncomputable def paidM (m : Mem) (l d : Int) : Mem := if ¬ ((0 ≤ l ∧ l ≤ 1) ∧ (0 ≤ d ∧ d ≤ m 1 0 0 1 - 1)) then m else qM m l.toNat 299
set_option maxHeartbeats 4000000 in
set_option maxRecDepth 100000 in
theorem c_paid (E : Ev) (m : Mem) (l d : Int) (hI : Inv m) (h1 : rg l) (h3 : rg d) : CT E 8 mX8_paid [rf E 0 0 0, .int (iI l), .int (iI d)] (hp E m) (some (.int (iI (paidR m l d)))) (hp E (paidM m l d)) := by
  refine CT.go okX8_paid (Nat.le_of_ble_eq_true rfl) ?_
  show T E 8 mX8_paid 0 [some (rf E 0 0 0), some (.int (iI l)), some (.int (iI d))] [] (hp E m) _
  unfold rg at h1 h3
  refine T.iload_n dX8_paid_0 rfl ?_
  refine T.cS1 (As := [.int (iI l)]) (st := []) dX8_paid_1 lk_X8_153 (c_isLaw E _ (by unfold rg; omega)) (by decide) rfl rfl (Nat.le_of_ble_eq_true rfl) ?_
  refine T.ifB_eq 15 dX8_paid_4 (fun c1 => ?_) (fun c1 => ?_)
  · refine T.iconst dX8_paid_15 ?_
    exact T.iret dX8_paid_16 ⟨congrArg (fun z => some (Value.int (iI z))) (Eq.symm (show paidR m l d = (-1) from by unfold paidR; rw [if_pos (by omega)] <;> first | rfl | omega)), congrArg (hp E) (Eq.symm (show paidM m l d = m from by unfold paidM; rw [if_pos (by omega)] <;> rfl))⟩
  · refine T.aload_n dX8_paid_7 rfl ?_
    refine T.iload_n dX8_paid_8 rfl ?_
    refine T.cV1 (As := [.int (iI d)]) (st := []) dX8_paid_9 lk_X8_76 (c_isDebt E m hI (by unfold rg; omega)) ok0 rfl rfl (by decide) rfl rfl (Nat.le_of_ble_eq_true rfl) ?_
    have n2 : (0 ≤ m 1 0 0 1 ∧ m 1 0 0 1 ≤ 8) ∧ 0 ≤ m 1 0 0 3 ∧ m 1 0 0 3 ≤ 12 := ⟨hI 1 0 0 1, hI 1 0 0 3⟩
    refine T.ifB_ne 17 dX8_paid_12 (fun c3 => ?_) (fun c3 => ?_)
    · refine T.aload_n dX8_paid_17 rfl ?_
      refine T.iload_n dX8_paid_18 rfl ?_
      refine T.sipush dX8_paid_19 ?_
      refine T.cV0 (As := [.int (iI l), .int (iI 299)]) (st := []) dX8_paid_22 lk_X8_176 (by have h0 := c_pgb E m l.toNat 299 hI (by omega) (by omega); rw [show ((l.toNat : Nat) : Int) = l from by omega] at h0; exact h0) ok0 rfl rfl (by decide) rfl rfl (Nat.le_of_ble_eq_true rfl) ?_
      refine T.aload_n dX8_paid_25 rfl ?_
      refine T.mget (v := rf E 10 0 0) dX8_paid_26 fo_X8_26 ok0 rfl rfl ?_
      refine T.mget (v := rf E 14 0 0) dX8_paid_29 fo_X8_211 (ok10 (by decide)) rfl rfl ?_
      refine T.iload_n dX8_paid_32 rfl ?_
      refine T.aI (z := (qS m l.toNat 299) 14 d.toNat) (x := d.toNat) dX8_paid_33 (ok14 (by decide)) (fun _ => rfl) (by omega) (by omega) (wrC_c rfl) ?_
      have q4 : -1 ≤ (qS m l.toNat 299) 14 d.toNat ∧ (qS m l.toNat 299) 14 d.toNat ≤ 299 := (qS_inv hI (by omega)).1 14 d.toNat rfl
      refine T.cS1 (As := [.int (iI ((qS m l.toNat 299) 14 d.toNat))]) (st := []) dX8_paid_34 lk_X8_214 (c_dayOrNone E _ (by unfold rg; omega)) (by decide) rfl rfl (Nat.le_of_ble_eq_true rfl) ?_
      exact T.iret dX8_paid_37 ⟨congrArg (fun z => some (Value.int (iI z))) (Eq.symm (show paidR m l d = if (qS m l.toNat 299) 14 d.toNat = -1 then -4 else (qS m l.toNat 299) 14 d.toNat from by unfold paidR; rw [if_neg (by omega)] <;> first | rfl | omega)), congrArg (hp E) (Eq.symm (show paidM m l d = (wrC (stM m 0 0 l.toNat) 0 (qS m l.toNat 299)) from by unfold paidM; rw [if_neg (by omega)] <;> rfl))⟩
    · refine T.iconst dX8_paid_15 ?_
      exact T.iret dX8_paid_16 ⟨congrArg (fun z => some (Value.int (iI z))) (Eq.symm (show paidR m l d = (-1) from by unfold paidR; rw [if_pos (by omega)] <;> first | rfl | omega)), congrArg (hp E) (Eq.symm (show paidM m l d = m from by unfold paidM; rw [if_pos (by omega)] <;> rfl))⟩
noncomputable def wakesR (m : Mem) (l d : Int) : Int := if ¬ ((0 ≤ l ∧ l ≤ 1) ∧ (0 ≤ d ∧ d ≤ m 1 0 0 1 - 1)) then -1 else (if qS m l.toNat 299 15 d.toNat = -1 then -4 else qS m l.toNat 299 15 d.toNat)
noncomputable def wakesM (m : Mem) (l d : Int) : Mem := if ¬ ((0 ≤ l ∧ l ≤ 1) ∧ (0 ≤ d ∧ d ≤ m 1 0 0 1 - 1)) then m else qM m l.toNat 299
set_option maxHeartbeats 4000000 in
set_option maxRecDepth 100000 in
theorem c_wakes (E : Ev) (m : Mem) (l d : Int) (hI : Inv m) (h1 : rg l) (h3 : rg d) : CT E 8 mX8_wakes [rf E 0 0 0, .int (iI l), .int (iI d)] (hp E m) (some (.int (iI (wakesR m l d)))) (hp E (wakesM m l d)) := by
  refine CT.go okX8_wakes (Nat.le_of_ble_eq_true rfl) ?_
  show T E 8 mX8_wakes 0 [some (rf E 0 0 0), some (.int (iI l)), some (.int (iI d))] [] (hp E m) _
  unfold rg at h1 h3
  refine T.iload_n dX8_wakes_0 rfl ?_
  refine T.cS1 (As := [.int (iI l)]) (st := []) dX8_wakes_1 lk_X8_153 (c_isLaw E _ (by unfold rg; omega)) (by decide) rfl rfl (Nat.le_of_ble_eq_true rfl) ?_
  refine T.ifB_eq 15 dX8_wakes_4 (fun c1 => ?_) (fun c1 => ?_)
  · refine T.iconst dX8_wakes_15 ?_
    exact T.iret dX8_wakes_16 ⟨congrArg (fun z => some (Value.int (iI z))) (Eq.symm (show wakesR m l d = (-1) from by unfold wakesR; rw [if_pos (by omega)] <;> first | rfl | omega)), congrArg (hp E) (Eq.symm (show wakesM m l d = m from by unfold wakesM; rw [if_pos (by omega)] <;> rfl))⟩
  · refine T.aload_n dX8_wakes_7 rfl ?_
    refine T.iload_n dX8_wakes_8 rfl ?_
    refine T.cV1 (As := [.int (iI d)]) (st := []) dX8_wakes_9 lk_X8_76 (c_isDebt E m hI (by unfold rg; omega)) ok0 rfl rfl (by decide) rfl rfl (Nat.le_of_ble_eq_true rfl) ?_
    have n2 : (0 ≤ m 1 0 0 1 ∧ m 1 0 0 1 ≤ 8) ∧ 0 ≤ m 1 0 0 3 ∧ m 1 0 0 3 ≤ 12 := ⟨hI 1 0 0 1, hI 1 0 0 3⟩
    refine T.ifB_ne 17 dX8_wakes_12 (fun c3 => ?_) (fun c3 => ?_)
    · refine T.aload_n dX8_wakes_17 rfl ?_
      refine T.iload_n dX8_wakes_18 rfl ?_
      refine T.sipush dX8_wakes_19 ?_
      refine T.cV0 (As := [.int (iI l), .int (iI 299)]) (st := []) dX8_wakes_22 lk_X8_176 (by have h0 := c_pgb E m l.toNat 299 hI (by omega) (by omega); rw [show ((l.toNat : Nat) : Int) = l from by omega] at h0; exact h0) ok0 rfl rfl (by decide) rfl rfl (Nat.le_of_ble_eq_true rfl) ?_
      refine T.aload_n dX8_wakes_25 rfl ?_
      refine T.mget (v := rf E 10 0 0) dX8_wakes_26 fo_X8_26 ok0 rfl rfl ?_
      refine T.mget (v := rf E 15 0 0) dX8_wakes_29 fo_X8_228 (ok10 (by decide)) rfl rfl ?_
      refine T.iload_n dX8_wakes_32 rfl ?_
      refine T.aI (z := (qS m l.toNat 299) 15 d.toNat) (x := d.toNat) dX8_wakes_33 (ok15 (by decide)) (fun _ => rfl) (by omega) (by omega) (wrC_c rfl) ?_
      have q4 : -1 ≤ (qS m l.toNat 299) 15 d.toNat ∧ (qS m l.toNat 299) 15 d.toNat ≤ 299 := (qS_inv hI (by omega)).1 15 d.toNat rfl
      refine T.cS1 (As := [.int (iI ((qS m l.toNat 299) 15 d.toNat))]) (st := []) dX8_wakes_34 lk_X8_214 (c_dayOrNone E _ (by unfold rg; omega)) (by decide) rfl rfl (Nat.le_of_ble_eq_true rfl) ?_
      exact T.iret dX8_wakes_37 ⟨congrArg (fun z => some (Value.int (iI z))) (Eq.symm (show wakesR m l d = if (qS m l.toNat 299) 15 d.toNat = -1 then -4 else (qS m l.toNat 299) 15 d.toNat from by unfold wakesR; rw [if_neg (by omega)] <;> first | rfl | omega)), congrArg (hp E) (Eq.symm (show wakesM m l d = (wrC (stM m 0 0 l.toNat) 0 (qS m l.toNat 299)) from by unfold wakesM; rw [if_neg (by omega)] <;> rfl))⟩
    · refine T.iconst dX8_wakes_15 ?_
      exact T.iret dX8_wakes_16 ⟨congrArg (fun z => some (Value.int (iI z))) (Eq.symm (show wakesR m l d = (-1) from by unfold wakesR; rw [if_pos (by omega)] <;> first | rfl | omega)), congrArg (hp E) (Eq.symm (show wakesM m l d = m from by unfold wakesM; rw [if_pos (by omega)] <;> rfl))⟩
