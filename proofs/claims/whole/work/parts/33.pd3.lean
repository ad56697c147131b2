noncomputable def putR (m : Mem) (l p d t : Int) : Int := if ¬ ((0 ≤ l ∧ l ≤ 1) ∧ (0 ≤ p ∧ p ≤ m 1 0 0 3 - 1) ∧ (d = -1 ∨ (0 ≤ d ∧ d ≤ m 1 0 0 1 - 1)) ∧ (0 ≤ t ∧ t ≤ 1)) then -1 else if d = -1 then (tuS (bk (stM m 0 0 l.toNat) (2 + 0)) (lw (stM m 0 0 l.toNat) (16 + 0)) (stS (bk (stM m 0 0 l.toNat) (2 + 0)) (fun k => (stM m 0 0 l.toNat) k 0 0)) p.toNat) 10 13 else if t = 0 then (tuS (bk (stM m 0 0 l.toNat) (2 + 0)) (lw (stM m 0 0 l.toNat) (16 + 0)) (stS (bk (stM m 0 0 l.toNat) (2 + 0)) (fun k => (stM m 0 0 l.toNat) k 0 0)) p.toNat) 18 d.toNat else (tuS (bk (stM m 0 0 l.toNat) (2 + 0)) (lw (stM m 0 0 l.toNat) (16 + 0)) (stS (bk (stM m 0 0 l.toNat) (2 + 0)) (fun k => (stM m 0 0 l.toNat) k 0 0)) p.toNat) 19 d.toNat
noncomputable def putM (m : Mem) (l p d t : Int) : Mem := if ¬ ((0 ≤ l ∧ l ≤ 1) ∧ (0 ≤ p ∧ p ≤ m 1 0 0 3 - 1) ∧ (d = -1 ∨ (0 ≤ d ∧ d ≤ m 1 0 0 1 - 1)) ∧ (0 ≤ t ∧ t ≤ 1)) then m else if d = -1 then wrC (stM m 0 0 l.toNat) 0 (tuS (bk (stM m 0 0 l.toNat) (2 + 0)) (lw (stM m 0 0 l.toNat) (16 + 0)) (stS (bk (stM m 0 0 l.toNat) (2 + 0)) (fun k => (stM m 0 0 l.toNat) k 0 0)) p.toNat) else if t = 0 then wrC (stM m 0 0 l.toNat) 0 (tuS (bk (stM m 0 0 l.toNat) (2 + 0)) (lw (stM m 0 0 l.toNat) (16 + 0)) (stS (bk (stM m 0 0 l.toNat) (2 + 0)) (fun k => (stM m 0 0 l.toNat) k 0 0)) p.toNat) else wrC (stM m 0 0 l.toNat) 0 (tuS (bk (stM m 0 0 l.toNat) (2 + 0)) (lw (stM m 0 0 l.toNat) (16 + 0)) (stS (bk (stM m 0 0 l.toNat) (2 + 0)) (fun k => (stM m 0 0 l.toNat) k 0 0)) p.toNat)
set_option maxHeartbeats 4000000 in
set_option maxRecDepth 100000 in
theorem c_put (E : Ev) (m : Mem) (l p d t : Int) (hI : Inv m) (h1 : rg l) (h2 : rg p) (h3 : rg d) (h4 : rg t) : CT E 7 mX8_put [rf E 0 0 0, .int (iI l), .int (iI p), .int (iI d), .int (iI t)] (hp E m) (some (.long (lI (putR m l p d t)))) (hp E (putM m l p d t)) := by
  refine CT.go okX8_put (Nat.le_of_ble_eq_true rfl) ?_
  show T E 7 mX8_put 0 [some (rf E 0 0 0), some (.int (iI l)), some (.int (iI p)), some (.int (iI d)), some (.int (iI t))] [] (hp E m) _
  unfold rg at h1 h2 h3 h4
  refine T.iload_n dX8_put_0 rfl ?_
  refine T.cS1 (As := [.int (iI l)]) (st := []) dX8_put_1 lk_X8_153 (c_isLaw E _ (by unfold rg; omega)) (by decide) rfl rfl (Nat.le_of_ble_eq_true rfl) ?_
  refine T.ifB_eq 33 dX8_put_4 (fun c1 => ?_) (fun c1 => ?_)
  · refine T.ldc2 dX8_put_33 kl_X8_174 ?_
    exact T.lret dX8_put_36 ⟨congrArg (fun z => some (Value.long (lI z))) (Eq.symm (show putR m l p d t = (-1) from by unfold putR; rw [if_pos (by omega)] <;> first | rfl | omega)), congrArg (hp E) (Eq.symm (show putM m l p d t = m from by unfold putM; rw [if_pos (by omega)] <;> rfl))⟩
  · refine T.aload_n dX8_put_7 rfl ?_
    refine T.iload_n dX8_put_8 rfl ?_
    refine T.cV1 (As := [.int (iI p)]) (st := []) dX8_put_9 lk_X8_113 (c_isPayment E m hI (by unfold rg; omega)) ok0 rfl rfl (by decide) rfl rfl (Nat.le_of_ble_eq_true rfl) ?_
    have n2 : (0 ≤ m 1 0 0 1 ∧ m 1 0 0 1 ≤ 8) ∧ 0 ≤ m 1 0 0 3 ∧ m 1 0 0 3 ≤ 12 := ⟨hI 1 0 0 1, hI 1 0 0 3⟩
    refine T.ifB_eq 33 dX8_put_12 (fun c3 => ?_) (fun c3 => ?_)
    · refine T.ldc2 dX8_put_33 kl_X8_174 ?_
      exact T.lret dX8_put_36 ⟨congrArg (fun z => some (Value.long (lI z))) (Eq.symm (show putR m l p d t = (-1) from by unfold putR; rw [if_pos (by omega)] <;> first | rfl | omega)), congrArg (hp E) (Eq.symm (show putM m l p d t = m from by unfold putM; rw [if_pos (by omega)] <;> rfl))⟩
    · refine T.aload_n dX8_put_15 rfl ?_
      refine T.iload_n dX8_put_16 rfl ?_
      refine T.cV1 (As := [.int (iI d)]) (st := []) dX8_put_17 lk_X8_116 (c_isDebtOrNone E m hI (by unfold rg; omega)) ok0 rfl rfl (by decide) rfl rfl (Nat.le_of_ble_eq_true rfl) ?_
      have n4 : (0 ≤ m 1 0 0 1 ∧ m 1 0 0 1 ≤ 8) ∧ 0 ≤ m 1 0 0 3 ∧ m 1 0 0 3 ≤ 12 := ⟨hI 1 0 0 1, hI 1 0 0 3⟩
      refine T.ifB_eq 33 dX8_put_20 (fun c5 => ?_) (fun c5 => ?_)
      · refine T.ldc2 dX8_put_33 kl_X8_174 ?_
        exact T.lret dX8_put_36 ⟨congrArg (fun z => some (Value.long (lI z))) (Eq.symm (show putR m l p d t = (-1) from by unfold putR; rw [if_pos (by omega)] <;> first | rfl | omega)), congrArg (hp E) (Eq.symm (show putM m l p d t = m from by unfold putM; rw [if_pos (by omega)] <;> rfl))⟩
      · refine T.iload dX8_put_23 rfl ?_
        refine T.iconst dX8_put_25 ?_
        refine T.iconst dX8_put_26 ?_
        refine T.cS1 (As := [.int (iI t), .int (iI 0), .int (iI 1)]) (st := []) dX8_put_27 lk_X8_54 (c_within E _ (by unfold rg; omega) (by unfold rg; omega) (by unfold rg; omega)) (by decide) rfl rfl (Nat.le_of_ble_eq_true rfl) ?_
        refine T.ifB_ne 37 dX8_put_30 (fun c6 => ?_) (fun c6 => ?_)
        · refine T.aload_n dX8_put_37 rfl ?_
          refine T.mget (v := rf E 10 0 0) dX8_put_38 fo_X8_26 ok0 rfl rfl ?_
          refine T.aload_n dX8_put_41 rfl ?_
          refine T.mget (v := rf E 1 0 0) dX8_put_42 fo_X8_10 ok0 rfl rfl ?_
          refine T.iload_n dX8_put_45 rfl ?_
          refine T.cV0 (As := [rf E 1 0 0, .int (iI l)]) (st := []) dX8_put_46 lk_X8_193 (by have h0 := c_start E m 0 0 l.toNat (by decide) hI (by decide) (by decide) (by omega); rw [show ((l.toNat : Nat) : Int) = l from by omega] at h0; exact h0) (ok10 (by decide)) rfl rfl (by decide) rfl rfl (Nat.le_of_ble_eq_true rfl) ?_
          refine T.aload_n dX8_put_49 rfl ?_
          refine T.mget (v := rf E 10 0 0) dX8_put_50 fo_X8_26 ok0 rfl rfl ?_
          refine T.iload_n dX8_put_53 rfl ?_
          refine T.cV0 (As := [.int (iI p)]) (st := []) dX8_put_54 lk_X8_197 (by have h0 := c_takeUpTo E (stM m 0 0 l.toNat) 0 (stS (bk (stM m 0 0 l.toNat) (2 + 0)) (fun k => (stM m 0 0 l.toNat) k 0 0)) p.toNat (by decide) (Inv.stM hI) (st_inv hI).1 (st_inv hI).2 (by omega); rw [show ((p.toNat : Nat) : Int) = p from by omega] at h0; exact h0) (ok10 (by decide)) rfl rfl (by decide) rfl rfl (Nat.le_of_ble_eq_true rfl) ?_
          refine T.iload_n dX8_put_57 rfl ?_
          refine T.iconst dX8_put_58 ?_
          refine T.icmp_ne 70 dX8_put_59 (by unfold rg; omega) (by unfold rg; omega) (fun c7 => ?_) (fun c7 => ?_)
          · refine T.iload dX8_put_70 rfl ?_
            refine T.if_ne 87 dX8_put_72 (by unfold rg; omega) (fun c8 => ?_) (fun c8 => ?_)
            · refine T.aload_n dX8_put_87 rfl ?_
              refine T.mget (v := rf E 10 0 0) dX8_put_88 fo_X8_26 ok0 rfl rfl ?_
              refine T.mget (v := rf E 19 0 0) dX8_put_91 fo_X8_208 (ok10 (by decide)) rfl rfl ?_
              refine T.iload_n dX8_put_94 rfl ?_
              refine T.aL (z := (tuS (bk (stM m 0 0 l.toNat) (2 + 0)) (lw (stM m 0 0 l.toNat) (16 + 0)) (stS (bk (stM m 0 0 l.toNat) (2 + 0)) (fun k => (stM m 0 0 l.toNat) k 0 0)) p.toNat) 19 d.toNat) (x := d.toNat) dX8_put_95 (ok19 (by decide)) (fun _ => rfl) (by omega) (by omega) (wrC_c rfl) ?_
              exact T.lret dX8_put_96 ⟨congrArg (fun z => some (Value.long (lI z))) (Eq.symm (show putR m l p d t = (tuS (bk (stM m 0 0 l.toNat) (2 + 0)) (lw (stM m 0 0 l.toNat) (16 + 0)) (stS (bk (stM m 0 0 l.toNat) (2 + 0)) (fun k => (stM m 0 0 l.toNat) k 0 0)) p.toNat) 19 d.toNat from by unfold putR; rw [if_neg (by omega), if_neg (by omega), if_neg (by omega)] <;> first | rfl | omega)), congrArg (hp E) (Eq.symm (show putM m l p d t = (wrC (stM m 0 0 l.toNat) 0 (tuS (bk (stM m 0 0 l.toNat) (2 + 0)) (lw (stM m 0 0 l.toNat) (16 + 0)) (stS (bk (stM m 0 0 l.toNat) (2 + 0)) (fun k => (stM m 0 0 l.toNat) k 0 0)) p.toNat)) from by unfold putM; rw [if_neg (by omega), if_neg (by omega), if_neg (by omega)] <;> rfl))⟩
            · refine T.aload_n dX8_put_75 rfl ?_
              refine T.mget (v := rf E 10 0 0) dX8_put_76 fo_X8_26 ok0 rfl rfl ?_
              refine T.mget (v := rf E 18 0 0) dX8_put_79 fo_X8_204 (ok10 (by decide)) rfl rfl ?_
              refine T.iload_n dX8_put_82 rfl ?_
              refine T.aL (z := (tuS (bk (stM m 0 0 l.toNat) (2 + 0)) (lw (stM m 0 0 l.toNat) (16 + 0)) (stS (bk (stM m 0 0 l.toNat) (2 + 0)) (fun k => (stM m 0 0 l.toNat) k 0 0)) p.toNat) 18 d.toNat) (x := d.toNat) dX8_put_83 (ok18 (by decide)) (fun _ => rfl) (by omega) (by omega) (wrC_c rfl) ?_
              refine T.goto 96 dX8_put_84 ?_
              exact T.lret dX8_put_96 ⟨congrArg (fun z => some (Value.long (lI z))) (Eq.symm (show putR m l p d t = (tuS (bk (stM m 0 0 l.toNat) (2 + 0)) (lw (stM m 0 0 l.toNat) (16 + 0)) (stS (bk (stM m 0 0 l.toNat) (2 + 0)) (fun k => (stM m 0 0 l.toNat) k 0 0)) p.toNat) 18 d.toNat from by unfold putR; rw [if_neg (by omega), if_neg (by omega), if_pos (by omega)] <;> first | rfl | omega)), congrArg (hp E) (Eq.symm (show putM m l p d t = (wrC (stM m 0 0 l.toNat) 0 (tuS (bk (stM m 0 0 l.toNat) (2 + 0)) (lw (stM m 0 0 l.toNat) (16 + 0)) (stS (bk (stM m 0 0 l.toNat) (2 + 0)) (fun k => (stM m 0 0 l.toNat) k 0 0)) p.toNat)) from by unfold putM; rw [if_neg (by omega), if_neg (by omega), if_pos (by omega)] <;> rfl))⟩
          · refine T.aload_n dX8_put_62 rfl ?_
            refine T.mget (v := rf E 10 0 0) dX8_put_63 fo_X8_26 ok0 rfl rfl ?_
            refine T.gL (z := (tuS (bk (stM m 0 0 l.toNat) (2 + 0)) (lw (stM m 0 0 l.toNat) (16 + 0)) (stS (bk (stM m 0 0 l.toNat) (2 + 0)) (fun k => (stM m 0 0 l.toNat) k 0 0)) p.toNat) 10 13) dX8_put_66 fo_X8_200 (ok10 (by decide)) rfl rfl (wrC_c rfl) ?_
            exact T.lret dX8_put_69 ⟨congrArg (fun z => some (Value.long (lI z))) (Eq.symm (show putR m l p d t = (tuS (bk (stM m 0 0 l.toNat) (2 + 0)) (lw (stM m 0 0 l.toNat) (16 + 0)) (stS (bk (stM m 0 0 l.toNat) (2 + 0)) (fun k => (stM m 0 0 l.toNat) k 0 0)) p.toNat) 10 13 from by unfold putR; rw [if_neg (by omega), if_pos (by omega)] <;> first | rfl | omega)), congrArg (hp E) (Eq.symm (show putM m l p d t = (wrC (stM m 0 0 l.toNat) 0 (tuS (bk (stM m 0 0 l.toNat) (2 + 0)) (lw (stM m 0 0 l.toNat) (16 + 0)) (stS (bk (stM m 0 0 l.toNat) (2 + 0)) (fun k => (stM m 0 0 l.toNat) k 0 0)) p.toNat)) from by unfold putM; rw [if_neg (by omega), if_pos (by omega)] <;> rfl))⟩
        · refine T.ldc2 dX8_put_33 kl_X8_174 ?_
          exact T.lret dX8_put_36 ⟨congrArg (fun z => some (Value.long (lI z))) (Eq.symm (show putR m l p d t = (-1) from by unfold putR; rw [if_pos (by omega)] <;> first | rfl | omega)), congrArg (hp E) (Eq.symm (show putM m l p d t = m from by unfold putM; rw [if_pos (by omega)] <;> rfl))⟩
noncomputable def deadR (m : Mem) (l d y : Int) : Int := if ¬ ((0 ≤ l ∧ l ≤ 1) ∧ (0 ≤ d ∧ d ≤ m 1 0 0 1 - 1) ∧ (0 ≤ y ∧ y ≤ 299)) then -1 else if (deadS (bk (stM m 0 0 l.toNat) (2 + 0)) (runToS (bk (stM m 0 0 l.toNat) (2 + 0)) (gbS (bk (stM m 0 0 l.toNat) (2 + 0)) (lw (stM m 0 0 l.toNat) (16 + 0)) (stS (bk (stM m 0 0 l.toNat) (2 + 0)) (fun k => (stM m 0 0 l.toNat) k 0 0)) (y - 1)) y)) 16 d.toNat = 0 then 0 else 1
noncomputable def deadM (m : Mem) (l d y : Int) : Mem := if ¬ ((0 ≤ l ∧ l ≤ 1) ∧ (0 ≤ d ∧ d ≤ m 1 0 0 1 - 1) ∧ (0 ≤ y ∧ y ≤ 299)) then m else if (deadS (bk (stM m 0 0 l.toNat) (2 + 0)) (runToS (bk (stM m 0 0 l.toNat) (2 + 0)) (gbS (bk (stM m 0 0 l.toNat) (2 + 0)) (lw (stM m 0 0 l.toNat) (16 + 0)) (stS (bk (stM m 0 0 l.toNat) (2 + 0)) (fun k => (stM m 0 0 l.toNat) k 0 0)) (y - 1)) y)) 16 d.toNat = 0 then wrC (stM m 0 0 l.toNat) 0 (deadS (bk (stM m 0 0 l.toNat) (2 + 0)) (runToS (bk (stM m 0 0 l.toNat) (2 + 0)) (gbS (bk (stM m 0 0 l.toNat) (2 + 0)) (lw (stM m 0 0 l.toNat) (16 + 0)) (stS (bk (stM m 0 0 l.toNat) (2 + 0)) (fun k => (stM m 0 0 l.toNat) k 0 0)) (y - 1)) y)) else wrC (stM m 0 0 l.toNat) 0 (deadS (bk (stM m 0 0 l.toNat) (2 + 0)) (runToS (bk (stM m 0 0 l.toNat) (2 + 0)) (gbS (bk (stM m 0 0 l.toNat) (2 + 0)) (lw (stM m 0 0 l.toNat) (16 + 0)) (stS (bk (stM m 0 0 l.toNat) (2 + 0)) (fun k => (stM m 0 0 l.toNat) k 0 0)) (y - 1)) y))
set_option maxHeartbeats 4000000 in
set_option maxRecDepth 100000 in
theorem c_dead (E : Ev) (m : Mem) (l d y : Int) (hI : Inv m) (h1 : rg l) (h2 : rg d) (h3 : rg y) : CT E 8 mX8_dead [rf E 0 0 0, .int (iI l), .int (iI d), .int (iI y)] (hp E m) (some (.int (iI (deadR m l d y)))) (hp E (deadM m l d y)) := by
  refine CT.go okX8_dead (Nat.le_of_ble_eq_true rfl) ?_
  show T E 8 mX8_dead 0 [some (rf E 0 0 0), some (.int (iI l)), some (.int (iI d)), some (.int (iI y))] [] (hp E m) _
  unfold rg at h1 h2 h3
  refine T.iload_n dX8_dead_0 rfl ?_
  refine T.cS1 (As := [.int (iI l)]) (st := []) dX8_dead_1 lk_X8_153 (c_isLaw E _ (by unfold rg; omega)) (by decide) rfl rfl (Nat.le_of_ble_eq_true rfl) ?_
  refine T.ifB_eq 22 dX8_dead_4 (fun c1 => ?_) (fun c1 => ?_)
  · refine T.iconst dX8_dead_22 ?_
    exact T.iret dX8_dead_23 ⟨congrArg (fun z => some (Value.int (iI z))) (Eq.symm (show deadR m l d y = (-1) from by unfold deadR; rw [if_pos (by omega)] <;> first | rfl | omega)), congrArg (hp E) (Eq.symm (show deadM m l d y = m from by unfold deadM; rw [if_pos (by omega)] <;> rfl))⟩
  · refine T.aload_n dX8_dead_7 rfl ?_
    refine T.iload_n dX8_dead_8 rfl ?_
    refine T.cV1 (As := [.int (iI d)]) (st := []) dX8_dead_9 lk_X8_76 (c_isDebt E m hI (by unfold rg; omega)) ok0 rfl rfl (by decide) rfl rfl (Nat.le_of_ble_eq_true rfl) ?_
    have n2 : (0 ≤ m 1 0 0 1 ∧ m 1 0 0 1 ≤ 8) ∧ 0 ≤ m 1 0 0 3 ∧ m 1 0 0 3 ≤ 12 := ⟨hI 1 0 0 1, hI 1 0 0 3⟩
    refine T.ifB_eq 22 dX8_dead_12 (fun c3 => ?_) (fun c3 => ?_)
    · refine T.iconst dX8_dead_22 ?_
      exact T.iret dX8_dead_23 ⟨congrArg (fun z => some (Value.int (iI z))) (Eq.symm (show deadR m l d y = (-1) from by unfold deadR; rw [if_pos (by omega)] <;> first | rfl | omega)), congrArg (hp E) (Eq.symm (show deadM m l d y = m from by unfold deadM; rw [if_pos (by omega)] <;> rfl))⟩
    · refine T.iload_n dX8_dead_15 rfl ?_
      refine T.cS1 (As := [.int (iI y)]) (st := []) dX8_dead_16 lk_X8_58 (c_isDay E _ (by unfold rg; omega)) (by decide) rfl rfl (Nat.le_of_ble_eq_true rfl) ?_
      refine T.ifB_ne 24 dX8_dead_19 (fun c4 => ?_) (fun c4 => ?_)
      · refine T.aload_n dX8_dead_24 rfl ?_
        refine T.mget (v := rf E 10 0 0) dX8_dead_25 fo_X8_26 ok0 rfl rfl ?_
        refine T.aload_n dX8_dead_28 rfl ?_
        refine T.mget (v := rf E 1 0 0) dX8_dead_29 fo_X8_10 ok0 rfl rfl ?_
        refine T.iload_n dX8_dead_32 rfl ?_
        refine T.cV0 (As := [rf E 1 0 0, .int (iI l)]) (st := []) dX8_dead_33 lk_X8_193 (by have h0 := c_start E m 0 0 l.toNat (by decide) hI (by decide) (by decide) (by omega); rw [show ((l.toNat : Nat) : Int) = l from by omega] at h0; exact h0) (ok10 (by decide)) rfl rfl (by decide) rfl rfl (Nat.le_of_ble_eq_true rfl) ?_
        refine T.aload_n dX8_dead_36 rfl ?_
        refine T.mget (v := rf E 10 0 0) dX8_dead_37 fo_X8_26 ok0 rfl rfl ?_
        refine T.iload_n dX8_dead_40 rfl ?_
        refine T.cV0 (As := [.int (iI y)]) (st := []) dX8_dead_41 lk_X8_218 (c_goAhead E (stM m 0 0 l.toNat) 0 (stS (bk (stM m 0 0 l.toNat) (2 + 0)) (fun k => (stM m 0 0 l.toNat) k 0 0)) y (by decide) (Inv.stM hI) (st_inv hI).1 (st_inv hI).2 (by omega)) (ok10 (by decide)) rfl rfl (by decide) rfl rfl (Nat.le_of_ble_eq_true rfl) ?_
        have g1 := gbm_inv (b := 2 + 0) (q := 16 + 0) (tg := y - 1) (Inv.stM hI) (st_inv (ln := l.toNat) (j := 0) (b0 := 0) hI).1 (st_inv hI).2 (by omega)
        have g2 := runToS_inv (tg := y) g1.1 (rt_of (Inv.stM hI) _) g1.2 (by omega)
        have g3 : InvS kC (deadS (bk (stM m 0 0 l.toNat) (2 + 0)) (runToS (bk (stM m 0 0 l.toNat) (2 + 0)) (gbS (bk (stM m 0 0 l.toNat) (2 + 0)) (lw (stM m 0 0 l.toNat) (16 + 0)) (stS (bk (stM m 0 0 l.toNat) (2 + 0)) (fun k => (stM m 0 0 l.toNat) k 0 0)) (y - 1)) y)) := deadL_inv g2.1 _
        refine T.aload_n dX8_dead_44 rfl ?_
        refine T.mget (v := rf E 10 0 0) dX8_dead_45 fo_X8_26 ok0 rfl rfl ?_
        refine T.cV0 (As := []) (st := []) dX8_dead_48 lk_X8_221 (c_findDead E (stM m 0 0 l.toNat) 0 (runToS (bk (stM m 0 0 l.toNat) (2 + 0)) (gbS (bk (stM m 0 0 l.toNat) (2 + 0)) (lw (stM m 0 0 l.toNat) (16 + 0)) (stS (bk (stM m 0 0 l.toNat) (2 + 0)) (fun k => (stM m 0 0 l.toNat) k 0 0)) (y - 1)) y) (by decide) (Inv.stM hI) g2.1) (ok10 (by decide)) rfl rfl (by decide) rfl rfl (Nat.le_of_ble_eq_true rfl) ?_
        refine T.aload_n dX8_dead_51 rfl ?_
        refine T.mget (v := rf E 10 0 0) dX8_dead_52 fo_X8_26 ok0 rfl rfl ?_
        refine T.mget (v := rf E 16 0 0) dX8_dead_55 fo_X8_224 (ok10 (by decide)) rfl rfl ?_
        refine T.iload_n dX8_dead_58 rfl ?_
        refine T.aZ (z := (deadS (bk (stM m 0 0 l.toNat) (2 + 0)) (runToS (bk (stM m 0 0 l.toNat) (2 + 0)) (gbS (bk (stM m 0 0 l.toNat) (2 + 0)) (lw (stM m 0 0 l.toNat) (16 + 0)) (stS (bk (stM m 0 0 l.toNat) (2 + 0)) (fun k => (stM m 0 0 l.toNat) k 0 0)) (y - 1)) y)) 16 d.toNat) (x := d.toNat) dX8_dead_59 (ok16 (by decide)) (fun _ => rfl) (by omega) (by omega) (wrC_c rfl) ?_
        have q5 : 0 ≤ (deadS (bk (stM m 0 0 l.toNat) (2 + 0)) (runToS (bk (stM m 0 0 l.toNat) (2 + 0)) (gbS (bk (stM m 0 0 l.toNat) (2 + 0)) (lw (stM m 0 0 l.toNat) (16 + 0)) (stS (bk (stM m 0 0 l.toNat) (2 + 0)) (fun k => (stM m 0 0 l.toNat) k 0 0)) (y - 1)) y)) 16 d.toNat ∧ (deadS (bk (stM m 0 0 l.toNat) (2 + 0)) (runToS (bk (stM m 0 0 l.toNat) (2 + 0)) (gbS (bk (stM m 0 0 l.toNat) (2 + 0)) (lw (stM m 0 0 l.toNat) (16 + 0)) (stS (bk (stM m 0 0 l.toNat) (2 + 0)) (fun k => (stM m 0 0 l.toNat) k 0 0)) (y - 1)) y)) 16 d.toNat ≤ 1 := g3 16 d.toNat rfl
        refine T.if_eq 67 dX8_dead_60 (by unfold rg; omega) (fun c6 => ?_) (fun c6 => ?_)
        · refine T.iconst dX8_dead_67 ?_
          exact T.iret dX8_dead_68 ⟨congrArg (fun z => some (Value.int (iI z))) (Eq.symm (show deadR m l d y = 0 from by unfold deadR; rw [if_neg (by omega), if_pos (by omega)] <;> first | rfl | omega)), congrArg (hp E) (Eq.symm (show deadM m l d y = (wrC (stM m 0 0 l.toNat) 0 (deadS (bk (stM m 0 0 l.toNat) (2 + 0)) (runToS (bk (stM m 0 0 l.toNat) (2 + 0)) (gbS (bk (stM m 0 0 l.toNat) (2 + 0)) (lw (stM m 0 0 l.toNat) (16 + 0)) (stS (bk (stM m 0 0 l.toNat) (2 + 0)) (fun k => (stM m 0 0 l.toNat) k 0 0)) (y - 1)) y))) from by unfold deadM; rw [if_neg (by omega), if_pos (by omega)] <;> rfl))⟩
        · refine T.iconst dX8_dead_63 ?_
          refine T.goto 68 dX8_dead_64 ?_
          exact T.iret dX8_dead_68 ⟨congrArg (fun z => some (Value.int (iI z))) (Eq.symm (show deadR m l d y = 1 from by unfold deadR; rw [if_neg (by omega), if_neg (by omega)] <;> first | rfl | omega)), congrArg (hp E) (Eq.symm (show deadM m l d y = (wrC (stM m 0 0 l.toNat) 0 (deadS (bk (stM m 0 0 l.toNat) (2 + 0)) (runToS (bk (stM m 0 0 l.toNat) (2 + 0)) (gbS (bk (stM m 0 0 l.toNat) (2 + 0)) (lw (stM m 0 0 l.toNat) (16 + 0)) (stS (bk (stM m 0 0 l.toNat) (2 + 0)) (fun k => (stM m 0 0 l.toNat) k 0 0)) (y - 1)) y))) from by unfold deadM; rw [if_neg (by omega), if_neg (by omega)] <;> rfl))⟩
      · refine T.iconst dX8_dead_22 ?_
        exact T.iret dX8_dead_23 ⟨congrArg (fun z => some (Value.int (iI z))) (Eq.symm (show deadR m l d y = (-1) from by unfold deadR; rw [if_pos (by omega)] <;> first | rfl | omega)), congrArg (hp E) (Eq.symm (show deadM m l d y = m from by unfold deadM; rw [if_pos (by omega)] <;> rfl))⟩
noncomputable def rankR (m : Mem) (l y i : Int) : Int := if ¬ ((0 ≤ l ∧ l ≤ 1) ∧ (0 ≤ y ∧ y ≤ 299) ∧ 0 ≤ i) then -1 else if i < ((ordS (bk (stM m 0 0 l.toNat) (2 + 0)) (lw (stM m 0 0 l.toNat) (16 + 0)) (deadS (bk (stM m 0 0 l.toNat) (2 + 0)) (qS m l.toNat y))).1 : Int) ∧ i < 8 then (setT (deadS (bk (stM m 0 0 l.toNat) (2 + 0)) (qS m l.toNat y)) 17 (ordS (bk (stM m 0 0 l.toNat) (2 + 0)) (lw (stM m 0 0 l.toNat) (16 + 0)) (deadS (bk (stM m 0 0 l.toNat) (2 + 0)) (qS m l.toNat y))).2) 17 i.toNat else -4
noncomputable def rankM (m : Mem) (l y i : Int) : Mem := if ¬ ((0 ≤ l ∧ l ≤ 1) ∧ (0 ≤ y ∧ y ≤ 299) ∧ 0 ≤ i) then m else if i < ((ordS (bk (stM m 0 0 l.toNat) (2 + 0)) (lw (stM m 0 0 l.toNat) (16 + 0)) (deadS (bk (stM m 0 0 l.toNat) (2 + 0)) (qS m l.toNat y))).1 : Int) ∧ i < 8 then wrC (stM m 0 0 l.toNat) 0 (setT (deadS (bk (stM m 0 0 l.toNat) (2 + 0)) (qS m l.toNat y)) 17 (ordS (bk (stM m 0 0 l.toNat) (2 + 0)) (lw (stM m 0 0 l.toNat) (16 + 0)) (deadS (bk (stM m 0 0 l.toNat) (2 + 0)) (qS m l.toNat y))).2) else wrC (stM m 0 0 l.toNat) 0 (setT (deadS (bk (stM m 0 0 l.toNat) (2 + 0)) (qS m l.toNat y)) 17 (ordS (bk (stM m 0 0 l.toNat) (2 + 0)) (lw (stM m 0 0 l.toNat) (16 + 0)) (deadS (bk (stM m 0 0 l.toNat) (2 + 0)) (qS m l.toNat y))).2)
set_option maxHeartbeats 4000000 in
set_option maxRecDepth 100000 in
theorem c_rank (E : Ev) (m : Mem) (l y i : Int) (hI : Inv m) (h1 : rg l) (h2 : rg y) (h3 : rg i) : CT E 8 mX8_rank [rf E 0 0 0, .int (iI l), .int (iI y), .int (iI i)] (hp E m) (some (.int (iI (rankR m l y i)))) (hp E (rankM m l y i)) := by
  refine CT.go okX8_rank (Nat.le_of_ble_eq_true rfl) ?_
  show T E 8 mX8_rank 0 [some (rf E 0 0 0), some (.int (iI l)), some (.int (iI y)), some (.int (iI i)), none] [] (hp E m) _
  unfold rg at h1 h2 h3
  refine T.iload_n dX8_rank_0 rfl ?_
  refine T.cS1 (As := [.int (iI l)]) (st := []) dX8_rank_1 lk_X8_153 (c_isLaw E _ (by unfold rg; omega)) (by decide) rfl rfl (Nat.le_of_ble_eq_true rfl) ?_
  refine T.ifB_eq 18 dX8_rank_4 (fun c1 => ?_) (fun c1 => ?_)
  · refine T.iconst dX8_rank_18 ?_
    exact T.iret dX8_rank_19 ⟨congrArg (fun z => some (Value.int (iI z))) (Eq.symm (show rankR m l y i = (-1) from by unfold rankR; rw [if_pos (by omega)] <;> first | rfl | omega)), congrArg (hp E) (Eq.symm (show rankM m l y i = m from by unfold rankM; rw [if_pos (by omega)] <;> rfl))⟩
  · refine T.iload_n dX8_rank_7 rfl ?_
    refine T.cS1 (As := [.int (iI y)]) (st := []) dX8_rank_8 lk_X8_58 (c_isDay E _ (by unfold rg; omega)) (by decide) rfl rfl (Nat.le_of_ble_eq_true rfl) ?_
    refine T.ifB_eq 18 dX8_rank_11 (fun c2 => ?_) (fun c2 => ?_)
    · refine T.iconst dX8_rank_18 ?_
      exact T.iret dX8_rank_19 ⟨congrArg (fun z => some (Value.int (iI z))) (Eq.symm (show rankR m l y i = (-1) from by unfold rankR; rw [if_pos (by omega)] <;> first | rfl | omega)), congrArg (hp E) (Eq.symm (show rankM m l y i = m from by unfold rankM; rw [if_pos (by omega)] <;> rfl))⟩
    · refine T.iload_n dX8_rank_14 rfl ?_
      refine T.if_ge 20 dX8_rank_15 (by unfold rg; omega) (fun c3 => ?_) (fun c3 => ?_)
      · refine T.aload_n dX8_rank_20 rfl ?_
        refine T.iload_n dX8_rank_21 rfl ?_
        refine T.iload_n dX8_rank_22 rfl ?_
        refine T.cV0 (As := [.int (iI l), .int (iI y)]) (st := []) dX8_rank_23 lk_X8_176 (by have h0 := c_pgb E m l.toNat y hI (by omega) (by omega); rw [show ((l.toNat : Nat) : Int) = l from by omega] at h0; exact h0) ok0 rfl rfl (by decide) rfl rfl (Nat.le_of_ble_eq_true rfl) ?_
        refine T.aload_n dX8_rank_26 rfl ?_
        refine T.mget (v := rf E 10 0 0) dX8_rank_27 fo_X8_26 ok0 rfl rfl ?_
        refine T.cV0 (As := []) (st := []) dX8_rank_30 lk_X8_221 (c_findDead E (stM m 0 0 l.toNat) 0 (qS m l.toNat y) (by decide) (Inv.stM hI) (qS_inv hI (by omega)).1) (ok10 (by decide)) rfl rfl (by decide) rfl rfl (Nat.le_of_ble_eq_true rfl) ?_
        have g3 : InvS kC (deadS (bk (stM m 0 0 l.toNat) (2 + 0)) (qS m l.toNat y)) := deadL_inv (qS_inv hI (by omega)).1 _
        have g5 := n8_of (b := 2 + 0) (Inv.stM (j := 0) (b0 := 0) (ln := l.toNat) hI)
        have g4 : (ordS (bk (stM m 0 0 l.toNat) (2 + 0)) (lw (stM m 0 0 l.toNat) (16 + 0)) (deadS (bk (stM m 0 0 l.toNat) (2 + 0)) (qS m l.toNat y))).1 ≤ ((bk (stM m 0 0 l.toNat) (2 + 0)) 12 0).toNat := ordL_n _
        refine T.aload_n dX8_rank_33 rfl ?_
        refine T.mget (v := rf E 10 0 0) dX8_rank_34 fo_X8_26 ok0 rfl rfl ?_
        refine T.cV1 (As := []) (st := []) dX8_rank_37 lk_X8_236 (c_orderOpen E (stM m 0 0 l.toNat) 0 (deadS (bk (stM m 0 0 l.toNat) (2 + 0)) (qS m l.toNat y)) (by decide) (Inv.stM hI) g3) (ok10 (by decide)) rfl rfl (by decide) rfl rfl (Nat.le_of_ble_eq_true rfl) ?_
        refine T.istore (ls' := [some (rf E 0 0 0), some (.int (iI l)), some (.int (iI y)), some (.int (iI i)), some (.int (iI ((ordS (bk (stM m 0 0 l.toNat) (2 + 0)) (lw (stM m 0 0 l.toNat) (16 + 0)) (deadS (bk (stM m 0 0 l.toNat) (2 + 0)) (qS m l.toNat y))).1 : Int)))]) dX8_rank_40 rfl ?_
        refine T.iload_n dX8_rank_42 rfl ?_
        refine T.iload dX8_rank_43 rfl ?_
        refine T.icmp_ge 66 dX8_rank_45 (by unfold rg; omega) (by unfold rg; omega) (fun c4 => ?_) (fun c4 => ?_)
        · refine T.bipush dX8_rank_66 ?_
          exact T.iret dX8_rank_68 ⟨congrArg (fun z => some (Value.int (iI z))) (Eq.symm (show rankR m l y i = (-4) from by unfold rankR; rw [if_neg (by omega), if_neg (by omega)] <;> first | rfl | omega)), congrArg (hp E) (Eq.symm (show rankM m l y i = (wrC (stM m 0 0 l.toNat) 0 (setT (deadS (bk (stM m 0 0 l.toNat) (2 + 0)) (qS m l.toNat y)) 17 (ordS (bk (stM m 0 0 l.toNat) (2 + 0)) (lw (stM m 0 0 l.toNat) (16 + 0)) (deadS (bk (stM m 0 0 l.toNat) (2 + 0)) (qS m l.toNat y))).2)) from by unfold rankM; rw [if_neg (by omega), if_neg (by omega)] <;> rfl))⟩
        · refine T.iload_n dX8_rank_48 rfl ?_
          refine T.bipush dX8_rank_49 ?_
          refine T.icmp_ge 66 dX8_rank_51 (by unfold rg; omega) (by unfold rg; omega) (fun c5 => ?_) (fun c5 => ?_)
          · refine T.bipush dX8_rank_66 ?_
            exact T.iret dX8_rank_68 ⟨congrArg (fun z => some (Value.int (iI z))) (Eq.symm (show rankR m l y i = (-4) from by unfold rankR; rw [if_neg (by omega), if_neg (by omega)] <;> first | rfl | omega)), congrArg (hp E) (Eq.symm (show rankM m l y i = (wrC (stM m 0 0 l.toNat) 0 (setT (deadS (bk (stM m 0 0 l.toNat) (2 + 0)) (qS m l.toNat y)) 17 (ordS (bk (stM m 0 0 l.toNat) (2 + 0)) (lw (stM m 0 0 l.toNat) (16 + 0)) (deadS (bk (stM m 0 0 l.toNat) (2 + 0)) (qS m l.toNat y))).2)) from by unfold rankM; rw [if_neg (by omega), if_neg (by omega)] <;> rfl))⟩
          · refine T.aload_n dX8_rank_54 rfl ?_
            refine T.mget (v := rf E 10 0 0) dX8_rank_55 fo_X8_26 ok0 rfl rfl ?_
            refine T.mget (v := rf E 17 0 0) dX8_rank_58 fo_X8_239 (ok10 (by decide)) rfl rfl ?_
            refine T.iload_n dX8_rank_61 rfl ?_
            refine T.aI (z := (setT (deadS (bk (stM m 0 0 l.toNat) (2 + 0)) (qS m l.toNat y)) 17 (ordS (bk (stM m 0 0 l.toNat) (2 + 0)) (lw (stM m 0 0 l.toNat) (16 + 0)) (deadS (bk (stM m 0 0 l.toNat) (2 + 0)) (qS m l.toNat y))).2) 17 i.toNat) (x := i.toNat) dX8_rank_62 (ok17 (by decide)) (fun _ => rfl) (by omega) (by omega) (wrC_c rfl) ?_
            refine T.goto 68 dX8_rank_63 ?_
            exact T.iret dX8_rank_68 ⟨congrArg (fun z => some (Value.int (iI z))) (Eq.symm (show rankR m l y i = (setT (deadS (bk (stM m 0 0 l.toNat) (2 + 0)) (qS m l.toNat y)) 17 (ordS (bk (stM m 0 0 l.toNat) (2 + 0)) (lw (stM m 0 0 l.toNat) (16 + 0)) (deadS (bk (stM m 0 0 l.toNat) (2 + 0)) (qS m l.toNat y))).2) 17 i.toNat from by unfold rankR; rw [if_neg (by omega), if_pos (by omega)] <;> first | rfl | omega)), congrArg (hp E) (Eq.symm (show rankM m l y i = (wrC (stM m 0 0 l.toNat) 0 (setT (deadS (bk (stM m 0 0 l.toNat) (2 + 0)) (qS m l.toNat y)) 17 (ordS (bk (stM m 0 0 l.toNat) (2 + 0)) (lw (stM m 0 0 l.toNat) (16 + 0)) (deadS (bk (stM m 0 0 l.toNat) (2 + 0)) (qS m l.toNat y))).2)) from by unfold rankM; rw [if_neg (by omega), if_pos (by omega)] <;> rfl))⟩
      · refine T.iconst dX8_rank_18 ?_
        exact T.iret dX8_rank_19 ⟨congrArg (fun z => some (Value.int (iI z))) (Eq.symm (show rankR m l y i = (-1) from by unfold rankR; rw [if_pos (by omega)] <;> first | rfl | omega)), congrArg (hp E) (Eq.symm (show rankM m l y i = m from by unfold rankM; rw [if_pos (by omega)] <;> rfl))⟩
def frF (M : Mem) (S : PS) (g : Int) : Nat → Nat → Int → Int
  | 0, _, acc => acc
  | k + 1, d, acc => if M 6 0 d 1 = g then (if S 14 d = -1 then -4 else frF M S g k (d + 1) (max acc (S 14 d))) else frF M S g k (d + 1) acc
set_option maxHeartbeats 4000000 in
set_option maxRecDepth 100000 in
theorem c_free_lp (E : Ev) (M : Mem) (S : PS) (g : Int) (hM : Inv M) (hS : InvS kC S) (hg : 0 ≤ g ∧ g ≤ 5) (n : Nat) (hn : M 1 0 0 1 = n) : ∀ (k : Nat) (d : Nat) (acc : Int), n - d = k → d ≤ n → (-2 ≤ acc ∧ acc ≤ 299) → T E 8 mX8_free 32 [some (rf E 0 0 0), none, some (.int (iI g)), some (.int (iI acc)), some (.int (iI (d : Int)))] [] (hp E (wrC M 0 S)) (fun r' h' => r' = some (.int (iI (frF M S g (n - d) d acc))) ∧ h' = hp E (wrC M 0 S)) := by
  have hn8 : 0 ≤ M 1 0 0 1 ∧ M 1 0 0 1 ≤ 8 := hM 1 0 0 1
  intro k
  induction k using Nat.strongRecOn with
  | ind k ih =>
    intro d acc hk hdn hac
    refine T.iload dX8_free_32 rfl ?_
    refine T.aload_n dX8_free_34 rfl ?_
    refine T.mget (v := rf E 1 0 0) dX8_free_35 fo_X8_10 ok0 rfl rfl ?_
    refine T.gI (z := M 1 0 0 1) dX8_free_38 fo_X8_62 (ok1 (by decide)) rfl rfl rfl ?_
    have q1 : 0 ≤ M 1 0 0 1 ∧ M 1 0 0 1 ≤ 8 := hM 1 0 0 1
    refine T.icmp_ge 101 dX8_free_41 (by unfold rg; omega) (by unfold rg; omega) (fun c2 => ?_) (fun c2 => ?_)
    · refine T.iload_n dX8_free_101 rfl ?_
      exact T.iret dX8_free_102 ⟨by rw [show n - d = 0 from by omega]; rfl, rfl⟩
    · refine T.aload_n dX8_free_44 rfl ?_
      refine T.mget (v := rf E 1 0 0) dX8_free_45 fo_X8_10 ok0 rfl rfl ?_
      refine T.mget (v := rf E 2 0 0) dX8_free_48 fo_X8_66 (ok1 (by decide)) rfl rfl ?_
      refine T.iload dX8_free_51 rfl ?_
      refine T.mald (C := RX2) (x := d) dX8_free_53 (ok2 (by decide)) (fun _ => rfl) rfl rfl (by omega) ?_
      refine T.mget (v := rf E 6 0 d) dX8_free_54 fo_X8_86 (ok5 (by decide) (by omega)) rfl rfl ?_
      refine T.iconst dX8_free_57 ?_
      refine T.aI (z := M 6 0 d 1) (x := 1) dX8_free_58 (ok6 (by decide) (by omega)) (fun _ => rfl) rfl (by decide) rfl ?_
      have q3 : -1 ≤ M 6 0 d 1 ∧ M 6 0 d 1 ≤ 5 := hM 6 0 d 1
      refine T.iload_n dX8_free_59 rfl ?_
      refine T.icmp_ne 95 dX8_free_60 (by unfold rg; omega) (by unfold rg; omega) (fun c4 => ?_) (fun c4 => ?_)
      · refine T.iinc (ls' := [some (rf E 0 0 0), none, some (.int (iI g)), some (.int (iI acc)), some (.int (iI ((d : Int) + 1)))]) dX8_free_95 rfl rfl ?_
        refine T.goto 32 dX8_free_98 ?_
        have hq : frF M S g (n - d) d acc = frF M S g (n - (d + 1)) (d + 1) acc := by
          rw [show n - d = (n - (d + 1)) + 1 from by omega]
          exact if_neg (by omega)
        rw [hq]
        exact ih (n - (d + 1)) (by omega) (d + 1) acc rfl (by omega) (by omega)
      · refine T.aload_n dX8_free_63 rfl ?_
        refine T.mget (v := rf E 10 0 0) dX8_free_64 fo_X8_26 ok0 rfl rfl ?_
        refine T.mget (v := rf E 14 0 0) dX8_free_67 fo_X8_211 (ok10 (by decide)) rfl rfl ?_
        refine T.iload dX8_free_70 rfl ?_
        refine T.aI (z := S 14 d) (x := d) dX8_free_72 (ok14 (by decide)) (fun _ => rfl) rfl (by omega) (wrC_c rfl) ?_
        have q5 : -1 ≤ S 14 d ∧ S 14 d ≤ 299 := hS 14 d rfl
        refine T.iconst dX8_free_73 ?_
        refine T.icmp_ne 80 dX8_free_74 (by unfold rg; omega) (by unfold rg; omega) (fun c6 => ?_) (fun c6 => ?_)
        · refine T.iload_n dX8_free_80 rfl ?_
          refine T.aload_n dX8_free_81 rfl ?_
          refine T.mget (v := rf E 10 0 0) dX8_free_82 fo_X8_26 ok0 rfl rfl ?_
          refine T.mget (v := rf E 14 0 0) dX8_free_85 fo_X8_211 (ok10 (by decide)) rfl rfl ?_
          refine T.iload dX8_free_88 rfl ?_
          refine T.aI (z := S 14 d) (x := d) dX8_free_90 (ok14 (by decide)) (fun _ => rfl) rfl (by omega) (wrC_c rfl) ?_
          refine T.mmax dX8_free_91 lmx_X8_231 (by unfold rg; omega) (by unfold rg; omega) (by decide) (Nat.le_of_ble_eq_true rfl) ?_
          refine T.istore_n (ls' := [some (rf E 0 0 0), none, some (.int (iI g)), some (.int (iI (max acc (S 14 d)))), some (.int (iI (d : Int)))]) dX8_free_94 rfl ?_
          refine T.iinc (ls' := [some (rf E 0 0 0), none, some (.int (iI g)), some (.int (iI (max acc (S 14 d)))), some (.int (iI ((d : Int) + 1)))]) dX8_free_95 rfl rfl ?_
          refine T.goto 32 dX8_free_98 ?_
          have hq : frF M S g (n - d) d acc = frF M S g (n - (d + 1)) (d + 1) (max acc (S 14 d)) := by
            rw [show n - d = (n - (d + 1)) + 1 from by omega]
            exact (if_pos (by omega)).trans (if_neg (by omega))
          rw [hq]
          exact ih (n - (d + 1)) (by omega) (d + 1) (max acc (S 14 d)) rfl (by omega) (by omega)
        · refine T.bipush dX8_free_77 ?_
          have hq : frF M S g (n - d) d acc = -4 := by
            rw [show n - d = (n - (d + 1)) + 1 from by omega]
            exact (if_pos (by omega)).trans (if_pos (by omega))
          exact T.iret dX8_free_79 ⟨by rw [hq], rfl⟩
noncomputable def freeR (m : Mem) (l g : Int) : Int := if ¬ ((0 ≤ l ∧ l ≤ 1) ∧ (0 ≤ g ∧ g ≤ 5)) then -1 else frF (stM m 0 0 l.toNat) (qS m l.toNat 299) g ((stM m 0 0 l.toNat) 1 0 0 1).toNat 0 (-2)
noncomputable def freeM (m : Mem) (l g : Int) : Mem := if ¬ ((0 ≤ l ∧ l ≤ 1) ∧ (0 ≤ g ∧ g ≤ 5)) then m else qM m l.toNat 299
set_option maxHeartbeats 4000000 in
set_option maxRecDepth 100000 in
theorem c_free (E : Ev) (m : Mem) (l g : Int) (hI : Inv m) (h1 : rg l) (h2 : rg g) : CT E 8 mX8_free [rf E 0 0 0, .int (iI l), .int (iI g)] (hp E m) (some (.int (iI (freeR m l g)))) (hp E (freeM m l g)) := by
  refine CT.go okX8_free (Nat.le_of_ble_eq_true rfl) ?_
  show T E 8 mX8_free 0 [some (rf E 0 0 0), some (.int (iI l)), some (.int (iI g)), none, none] [] (hp E m) _
  unfold rg at h1 h2
  refine T.iload_n dX8_free_0 rfl ?_
  refine T.cS1 (As := [.int (iI l)]) (st := []) dX8_free_1 lk_X8_153 (c_isLaw E _ (by unfold rg; omega)) (by decide) rfl rfl (Nat.le_of_ble_eq_true rfl) ?_
  refine T.ifB_eq 16 dX8_free_4 (fun c1 => ?_) (fun c1 => ?_)
  · refine T.iconst dX8_free_16 ?_
    exact T.iret dX8_free_17 ⟨congrArg (fun z => some (Value.int (iI z))) (Eq.symm (show freeR m l g = (-1) from by unfold freeR; rw [if_pos (by omega)] <;> first | rfl | omega)), congrArg (hp E) (Eq.symm (show freeM m l g = m from by unfold freeM; rw [if_pos (by omega)] <;> rfl))⟩
  · refine T.iload_n dX8_free_7 rfl ?_
    refine T.iconst dX8_free_8 ?_
    refine T.iconst dX8_free_9 ?_
    refine T.cS1 (As := [.int (iI g), .int (iI 0), .int (iI 5)]) (st := []) dX8_free_10 lk_X8_54 (c_within E _ (by unfold rg; omega) (by unfold rg; omega) (by unfold rg; omega)) (by decide) rfl rfl (Nat.le_of_ble_eq_true rfl) ?_
    refine T.ifB_ne 18 dX8_free_13 (fun c2 => ?_) (fun c2 => ?_)
    · refine T.aload_n dX8_free_18 rfl ?_
      refine T.iload_n dX8_free_19 rfl ?_
      refine T.sipush dX8_free_20 ?_
      refine T.cV0 (As := [.int (iI l), .int (iI 299)]) (st := []) dX8_free_23 lk_X8_176 (by have h0 := c_pgb E m l.toNat 299 hI (by omega) (by omega); rw [show ((l.toNat : Nat) : Int) = l from by omega] at h0; exact h0) ok0 rfl rfl (by decide) rfl rfl (Nat.le_of_ble_eq_true rfl) ?_
      refine T.bipush dX8_free_26 ?_
      refine T.istore_n (ls' := [some (rf E 0 0 0), some (.int (iI l)), some (.int (iI g)), some (.int (iI (-2))), none]) dX8_free_28 rfl ?_
      refine T.iconst dX8_free_29 ?_
      refine T.istore (ls' := [some (rf E 0 0 0), some (.int (iI l)), some (.int (iI g)), some (.int (iI (-2))), some (.int (iI 0))]) dX8_free_30 rfl ?_
      refine T.fgt (ls' := [some (rf E 0 0 0), none, some (.int (iI g)), some (.int (iI (-2))), some (.int (iI 0))]) (by simp [lsw]) ?_
      rw [show freeR m l g = frF (stM m 0 0 l.toNat) (qS m l.toNat 299) g ((stM m 0 0 l.toNat) 1 0 0 1).toNat 0 (-2) from by unfold freeR; rw [if_neg (by omega)], show freeM m l g = qM m l.toNat 299 from by unfold freeM; rw [if_neg (by omega)]]
      have hn8 : 0 ≤ (stM m 0 0 l.toNat) 1 0 0 1 ∧ (stM m 0 0 l.toNat) 1 0 0 1 ≤ 8 := (Inv.stM hI) 1 0 0 1
      exact c_free_lp E (stM m 0 0 l.toNat) (qS m l.toNat 299) g (Inv.stM hI) (qS_inv hI (by omega)).1 (by omega) _ (Int.toNat_of_nonneg hn8.1).symm _ 0 (-2) rfl (Nat.zero_le _) (by omega)
    · refine T.iconst dX8_free_16 ?_
      exact T.iret dX8_free_17 ⟨congrArg (fun z => some (Value.int (iI z))) (Eq.symm (show freeR m l g = (-1) from by unfold freeR; rw [if_pos (by omega)] <;> first | rfl | omega)), congrArg (hp E) (Eq.symm (show freeM m l g = m from by unfold freeM; rw [if_pos (by omega)] <;> rfl))⟩
noncomputable def gapR (m : Mem) (y : Int) : Int := if ¬ (0 ≤ y ∧ y ≤ 299) then -1000000000001 else owedL (qB m 1) (qS m 1 y) ((stM m 0 0 1) 1 (2 + 0) 0 1).toNat - owedL (qB (qM m 1 y) 0) (qS (qM m 1 y) 0 y) ((stM (qM m 1 y) 0 0 0) 1 (2 + 0) 0 1).toNat
noncomputable def gapM (m : Mem) (y : Int) : Mem := if ¬ (0 ≤ y ∧ y ≤ 299) then m else qM (qM m 1 y) 0 y
set_option maxHeartbeats 4000000 in
set_option maxRecDepth 100000 in
theorem c_gap (E : Ev) (m : Mem) (y : Int) (hI : Inv m) (h1 : rg y) : CT E 8 mX8_gap [rf E 0 0 0, .int (iI y)] (hp E m) (some (.long (lI (gapR m y)))) (hp E (gapM m y)) := by
  refine CT.go okX8_gap (Nat.le_of_ble_eq_true rfl) ?_
  show T E 8 mX8_gap 0 [some (rf E 0 0 0), some (.int (iI y)), none, none] [] (hp E m) _
  unfold rg at h1
  refine T.iload_n dX8_gap_0 rfl ?_
  refine T.cS1 (As := [.int (iI y)]) (st := []) dX8_gap_1 lk_X8_58 (c_isDay E _ (by unfold rg; omega)) (by decide) rfl rfl (Nat.le_of_ble_eq_true rfl) ?_
  refine T.ifB_ne 11 dX8_gap_4 (fun c1 => ?_) (fun c1 => ?_)
  · refine T.aload_n dX8_gap_11 rfl ?_
    refine T.iconst dX8_gap_12 ?_
    refine T.iload_n dX8_gap_13 rfl ?_
    refine T.cV0 (As := [.int (iI 1), .int (iI y)]) (st := []) dX8_gap_14 lk_X8_176 (c_pgb E m 1 y hI (by decide) (by omega)) ok0 rfl rfl (by decide) rfl rfl (Nat.le_of_ble_eq_true rfl) ?_
    refine T.aload_n dX8_gap_17 rfl ?_
    refine T.mget (v := rf E 10 0 0) dX8_gap_18 fo_X8_26 ok0 rfl rfl ?_
    refine T.cV1 (As := []) (st := []) dX8_gap_21 lk_X8_189 (c_owedNow E (stM m 0 0 1) 0 (qS m 1 y) (by decide) (Inv.stM hI) (qS_inv hI (by omega)).1) (ok10 (by decide)) rfl rfl (by decide) rfl rfl (Nat.le_of_ble_eq_true rfl) ?_
    refine T.lstore_n (ls' := [some (rf E 0 0 0), some (.int (iI y)), some (.long (lI (owedL (qB m 1) (qS m 1 y) ((stM m 0 0 1) 1 (2 + 0) 0 1).toNat))), none]) dX8_gap_24 rfl ?_
    refine T.aload_n dX8_gap_25 rfl ?_
    refine T.iconst dX8_gap_26 ?_
    refine T.iload_n dX8_gap_27 rfl ?_
    refine T.cV0 (As := [.int (iI 0), .int (iI y)]) (st := []) dX8_gap_28 lk_X8_176 (c_pgb E (qM m 1 y) 0 y (qM_inv hI (by omega)) (by decide) (by omega)) ok0 rfl rfl (by decide) rfl rfl (Nat.le_of_ble_eq_true rfl) ?_
    refine T.lload_n dX8_gap_31 rfl ?_
    refine T.aload_n dX8_gap_32 rfl ?_
    refine T.mget (v := rf E 10 0 0) dX8_gap_33 fo_X8_26 ok0 rfl rfl ?_
    refine T.cV1 (As := []) (st := [.long (lI (owedL (qB m 1) (qS m 1 y) ((stM m 0 0 1) 1 (2 + 0) 0 1).toNat))]) dX8_gap_36 lk_X8_189 (c_owedNow E (stM (qM m 1 y) 0 0 0) 0 (qS (qM m 1 y) 0 y) (by decide) (Inv.stM (qM_inv hI (by omega))) (qS_inv (qM_inv hI (by omega)) (by omega)).1) (ok10 (by decide)) rfl rfl (by decide) rfl rfl (Nat.le_of_ble_eq_true rfl) ?_
    refine T.lsub dX8_gap_39 ?_
    exact T.lret dX8_gap_40 ⟨congrArg (fun z => some (Value.long (lI z))) (Eq.symm (show gapR m y = (owedL (qB m 1) (qS m 1 y) ((stM m 0 0 1) 1 (2 + 0) 0 1).toNat) - (owedL (qB (qM m 1 y) 0) (qS (qM m 1 y) 0 y) ((stM (qM m 1 y) 0 0 0) 1 (2 + 0) 0 1).toNat) from by unfold gapR; rw [if_neg (by omega)] <;> first | rfl | omega)), congrArg (hp E) (Eq.symm (show gapM m y = (wrC (stM (qM m 1 y) 0 0 0) 0 (qS (qM m 1 y) 0 y)) from by unfold gapM; rw [if_neg (by omega)] <;> rfl))⟩
  · refine T.ldc2 dX8_gap_7 kl_X8_277 ?_
    exact T.lret dX8_gap_10 ⟨congrArg (fun z => some (Value.long (lI z))) (Eq.symm (show gapR m y = (-1000000000001) from by unfold gapR; rw [if_pos (by omega)] <;> first | rfl | omega)), congrArg (hp E) (Eq.symm (show gapM m y = m from by unfold gapM; rw [if_pos (by omega)] <;> rfl))⟩
