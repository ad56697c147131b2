set_option maxHeartbeats 4000000 in
set_option maxRecDepth 100000 in
theorem c_isDebt (E : Ev) (m : Mem) {d : Int} (hI : Inv m) (hd : rg d) : CT E 2 mX8_isDebt [rf E 0 0 0, .int (iI d)] (hp E m) (some (.int (iI (bZ (0 ≤ d ∧ d ≤ m 1 0 0 1 - 1))))) (hp E m) := by
  refine CT.go okX8_isDebt (Nat.le_of_ble_eq_true rfl) ?_
  show T E 2 mX8_isDebt 0 [some (rf E 0 0 0), some (.int (iI d))] [] (hp E m) _
  unfold rg at hd
  refine T.iload_n dX8_isDebt_0 rfl ?_
  refine T.iconst dX8_isDebt_1 ?_
  refine T.aload_n dX8_isDebt_2 rfl ?_
  refine T.mget (v := rf E 1 0 0) dX8_isDebt_3 fo_X8_10 ok0 rfl rfl ?_
  refine T.gI (z := m 1 0 0 1) dX8_isDebt_6 fo_X8_62 (ok1 (by decide)) rfl rfl rfl ?_
  have q1 : 0 ≤ m 1 0 0 1 ∧ m 1 0 0 1 ≤ 8 := hI 1 0 0 1
  refine T.iconst dX8_isDebt_9 ?_
  refine T.isub dX8_isDebt_10 ?_
  refine T.cS1 (As := [.int (iI d), .int (iI 0), .int (iI ((m 1 0 0 1) - 1))]) (st := []) dX8_isDebt_11 lk_X8_54 (c_within E _ (by unfold rg; omega) (by unfold rg; omega) (by unfold rg; omega)) (by decide) rfl rfl (Nat.le_of_ble_eq_true rfl) ?_
  exact T.zret dX8_isDebt_14 (narZ (bZ_01 _)) ⟨by first | rfl | (congr 3; exact bZ_iff (by omega)), rfl⟩
set_option maxHeartbeats 4000000 in
set_option maxRecDepth 100000 in
theorem c_isPayment (E : Ev) (m : Mem) {d : Int} (hI : Inv m) (hd : rg d) : CT E 2 mX8_isPayment [rf E 0 0 0, .int (iI d)] (hp E m) (some (.int (iI (bZ (0 ≤ d ∧ d ≤ m 1 0 0 3 - 1))))) (hp E m) := by
  refine CT.go okX8_isPayment (Nat.le_of_ble_eq_true rfl) ?_
  show T E 2 mX8_isPayment 0 [some (rf E 0 0 0), some (.int (iI d))] [] (hp E m) _
  unfold rg at hd
  refine T.iload_n dX8_isPayment_0 rfl ?_
  refine T.iconst dX8_isPayment_1 ?_
  refine T.aload_n dX8_isPayment_2 rfl ?_
  refine T.mget (v := rf E 1 0 0) dX8_isPayment_3 fo_X8_10 ok0 rfl rfl ?_
  refine T.gI (z := m 1 0 0 3) dX8_isPayment_6 fo_X8_93 (ok1 (by decide)) rfl rfl rfl ?_
  have q1 : 0 ≤ m 1 0 0 3 ∧ m 1 0 0 3 ≤ 12 := hI 1 0 0 3
  refine T.iconst dX8_isPayment_9 ?_
  refine T.isub dX8_isPayment_10 ?_
  refine T.cS1 (As := [.int (iI d), .int (iI 0), .int (iI ((m 1 0 0 3) - 1))]) (st := []) dX8_isPayment_11 lk_X8_54 (c_within E _ (by unfold rg; omega) (by unfold rg; omega) (by unfold rg; omega)) (by decide) rfl rfl (Nat.le_of_ble_eq_true rfl) ?_
  exact T.zret dX8_isPayment_14 (narZ (bZ_01 _)) ⟨by first | rfl | (congr 3; exact bZ_iff (by omega)), rfl⟩
set_option maxHeartbeats 4000000 in
set_option maxRecDepth 100000 in
theorem c_isDebtOrNone (E : Ev) (m : Mem) {d : Int} (hI : Inv m) (hd : rg d) : CT E 3 mX8_isDebtOrNone [rf E 0 0 0, .int (iI d)] (hp E m) (some (.int (iI (bZ (d = -1 ∨ (0 ≤ d ∧ d ≤ m 1 0 0 1 - 1)))))) (hp E m) := by
  refine CT.go okX8_isDebtOrNone (Nat.le_of_ble_eq_true rfl) ?_
  show T E 3 mX8_isDebtOrNone 0 [some (rf E 0 0 0), some (.int (iI d))] [] (hp E m) _
  unfold rg at hd
  refine T.iload_n dX8_isDebtOrNone_0 rfl ?_
  refine T.iconst dX8_isDebtOrNone_1 ?_
  refine T.icmp_eq 13 dX8_isDebtOrNone_2 (by unfold rg; omega) (by unfold rg; omega) (fun c1 => ?_) (fun c1 => ?_)
  · refine T.iconst dX8_isDebtOrNone_13 ?_
    refine T.goto 18 dX8_isDebtOrNone_14 ?_
    exact T.zret dX8_isDebtOrNone_18 (narZ (Or.inr rfl)) ⟨by rw [bZ_t (by omega)], rfl⟩
  · refine T.aload_n dX8_isDebtOrNone_5 rfl ?_
    refine T.iload_n dX8_isDebtOrNone_6 rfl ?_
    refine T.cV1 (As := [.int (iI d)]) (st := []) dX8_isDebtOrNone_7 lk_X8_76 (c_isDebt E m hI (by unfold rg; omega)) ok0 rfl rfl (by decide) rfl rfl (Nat.le_of_ble_eq_true rfl) ?_
    have n2 : (0 ≤ m 1 0 0 1 ∧ m 1 0 0 1 ≤ 8) ∧ 0 ≤ m 1 0 0 3 ∧ m 1 0 0 3 ≤ 12 := ⟨hI 1 0 0 1, hI 1 0 0 3⟩
    refine T.ifB_eq 17 dX8_isDebtOrNone_10 (fun c3 => ?_) (fun c3 => ?_)
    · refine T.iconst dX8_isDebtOrNone_17 ?_
      exact T.zret dX8_isDebtOrNone_18 (narZ (Or.inl rfl)) ⟨by rw [bZ_f (by omega)], rfl⟩
    · refine T.iconst dX8_isDebtOrNone_13 ?_
      refine T.goto 18 dX8_isDebtOrNone_14 ?_
      exact T.zret dX8_isDebtOrNone_18 (narZ (Or.inr rfl)) ⟨by rw [bZ_t (by omega)], rfl⟩
set_option maxHeartbeats 4000000 in
set_option maxRecDepth 100000 in
theorem c_dayOrNone (E : Ev) (h : Hp) {d : Int} (hd : rg d) : CT E 1 mX8_dayOrNone [.int (iI d)] h (some (.int (iI (if d = -1 then -4 else d)))) h := by
  refine CT.go okX8_dayOrNone (Nat.le_of_ble_eq_true rfl) ?_
  show T E 1 mX8_dayOrNone 0 [some (.int (iI d))] [] h _
  unfold rg at hd
  refine T.iload_n dX8_dayOrNone_0 rfl ?_
  refine T.iconst dX8_dayOrNone_1 ?_
  refine T.icmp_ne 10 dX8_dayOrNone_2 (by unfold rg; omega) (by unfold rg; omega) (fun c1 => ?_) (fun c1 => ?_)
  · refine T.iload_n dX8_dayOrNone_10 rfl ?_
    exact T.iret dX8_dayOrNone_11 ⟨by congr 3; split <;> omega, rfl⟩
  · refine T.bipush dX8_dayOrNone_5 ?_
    refine T.goto 11 dX8_dayOrNone_7 ?_
    exact T.iret dX8_dayOrNone_11 ⟨by congr 3; split <;> omega, rfl⟩
def begM (m : Mem) (b d : Nat) (w s u r : Int) : Mem := up (up (up (up (up (up (up (up m 5 b d 0 w) 5 b d 1 s) 6 b d 0 0) 6 b d 1 (-1)) 6 b d 2 0) 6 b d 3 0) 6 b d 4 r) 6 b d 5 u
set_option maxHeartbeats 4000000 in
set_option maxRecDepth 100000 in
theorem c_begin (E : Ev) (m : Mem) (b d : Nat) (w s u r : Int) (hb : b < 8) (hd : d < 8) : CT E 1 mX2_begin [rf E 5 b d, .int (iI w), .int (iI s), .int (iI u), .int (iI r)] (hp E m) (none) (hp E (begM m b d w s u r)) := by
  refine CT.go okX2_begin (Nat.le_of_ble_eq_true rfl) ?_
  show T E 1 mX2_begin 0 [some (rf E 5 b d), some (.int (iI w)), some (.int (iI s)), some (.int (iI u)), some (.int (iI r))] [] (hp E m) _
  refine T.aload_n dX2_begin_0 rfl ?_
  refine T.iload_n dX2_begin_1 rfl ?_
  refine T.mputI dX2_begin_2 fp_X2_15 (ok5 (by omega) (by omega)) rfl rfl (Nat.le_of_ble_eq_true rfl) ?_
  refine T.aload_n dX2_begin_5 rfl ?_
  refine T.iload_n dX2_begin_6 rfl ?_
  refine T.mputI dX2_begin_7 fp_X2_19 (ok5 (by omega) (by omega)) rfl rfl (Nat.le_of_ble_eq_true rfl) ?_
  refine T.aload_n dX2_begin_10 rfl ?_
  refine T.mget (v := rf E 6 b d) dX2_begin_11 fo_X2_9 (ok5 (by omega) (by omega)) rfl rfl ?_
  refine T.iconst dX2_begin_14 ?_
  refine T.iconst dX2_begin_15 ?_
  refine T.mist (x := 0) dX2_begin_16 (ok6 (by omega) (by omega)) (fun _ => rfl) rfl (by decide) ?_
  refine T.aload_n dX2_begin_17 rfl ?_
  refine T.mget (v := rf E 6 b d) dX2_begin_18 fo_X2_9 (ok5 (by omega) (by omega)) rfl rfl ?_
  refine T.iconst dX2_begin_21 ?_
  refine T.iconst dX2_begin_22 ?_
  refine T.mist (x := 1) dX2_begin_23 (ok6 (by omega) (by omega)) (fun _ => rfl) rfl (by decide) ?_
  refine T.aload_n dX2_begin_24 rfl ?_
  refine T.mget (v := rf E 6 b d) dX2_begin_25 fo_X2_9 (ok5 (by omega) (by omega)) rfl rfl ?_
  refine T.iconst dX2_begin_28 ?_
  refine T.iconst dX2_begin_29 ?_
  refine T.mist (x := 2) dX2_begin_30 (ok6 (by omega) (by omega)) (fun _ => rfl) rfl (by decide) ?_
  refine T.aload_n dX2_begin_31 rfl ?_
  refine T.mget (v := rf E 6 b d) dX2_begin_32 fo_X2_9 (ok5 (by omega) (by omega)) rfl rfl ?_
  refine T.iconst dX2_begin_35 ?_
  refine T.iconst dX2_begin_36 ?_
  refine T.mist (x := 3) dX2_begin_37 (ok6 (by omega) (by omega)) (fun _ => rfl) rfl (by decide) ?_
  refine T.aload_n dX2_begin_38 rfl ?_
  refine T.mget (v := rf E 6 b d) dX2_begin_39 fo_X2_9 (ok5 (by omega) (by omega)) rfl rfl ?_
  refine T.iconst dX2_begin_42 ?_
  refine T.iload dX2_begin_43 rfl ?_
  refine T.mist (x := 4) dX2_begin_45 (ok6 (by omega) (by omega)) (fun _ => rfl) rfl (by decide) ?_
  refine T.aload_n dX2_begin_46 rfl ?_
  refine T.mget (v := rf E 6 b d) dX2_begin_47 fo_X2_9 (ok5 (by omega) (by omega)) rfl rfl ?_
  refine T.iconst dX2_begin_50 ?_
  refine T.iload_n dX2_begin_51 rfl ?_
  refine T.mist (x := 5) dX2_begin_52 (ok6 (by omega) (by omega)) (fun _ => rfl) rfl (by decide) ?_
  exact T.vret dX2_begin_53 ⟨rfl, rfl⟩
def debtR (m : Mem) (w s u t : Int) : Int := if ¬ ((1 ≤ w ∧ w ≤ 9999) ∧ (0 ≤ s ∧ s ≤ 299) ∧ (0 ≤ u ∧ u ≤ 299) ∧ (0 ≤ t ∧ t ≤ 99)) then -1 else if 8 ≤ m 1 0 0 1 then -3 else m 1 0 0 1
def debtM (m : Mem) (w s u t : Int) : Mem := if ¬ ((1 ≤ w ∧ w ≤ 9999) ∧ (0 ≤ s ∧ s ≤ 299) ∧ (0 ≤ u ∧ u ≤ 299) ∧ (0 ≤ t ∧ t ≤ 99)) then m else if 8 ≤ m 1 0 0 1 then m else up (begM m 0 (m 1 0 0 1).toNat w s u t) 1 0 0 1 (m 1 0 0 1 + 1)
set_option maxHeartbeats 4000000 in
set_option maxRecDepth 100000 in
theorem c_debt (E : Ev) (m : Mem) (w s u t : Int) (hI : Inv m) (h1 : rg w) (h2 : rg s) (h3 : rg u) (h4 : rg t) : CT E 4 mX8_debt [rf E 0 0 0, .int (iI w), .int (iI s), .int (iI u), .int (iI t)] (hp E m) (some (.int (iI (debtR m w s u t)))) (hp E (debtM m w s u t)) := by
  refine CT.go okX8_debt (Nat.le_of_ble_eq_true rfl) ?_
  show T E 4 mX8_debt 0 [some (rf E 0 0 0), some (.int (iI w)), some (.int (iI s)), some (.int (iI u)), some (.int (iI t))] [] (hp E m) _
  unfold rg at h1 h2 h3 h4
  refine T.iload_n dX8_debt_0 rfl ?_
  refine T.iconst dX8_debt_1 ?_
  refine T.sipush dX8_debt_2 ?_
  refine T.cS1 (As := [.int (iI w), .int (iI 1), .int (iI 9999)]) (st := []) dX8_debt_5 lk_X8_54 (c_within E _ (by unfold rg; omega) (by unfold rg; omega) (by unfold rg; omega)) (by decide) rfl rfl (Nat.le_of_ble_eq_true rfl) ?_
  refine T.ifB_eq 36 dX8_debt_8 (fun c1 => ?_) (fun c1 => ?_)
  · refine T.iconst dX8_debt_36 ?_
    exact T.iret dX8_debt_37 ⟨congrArg (fun z => some (Value.int (iI z))) (Eq.symm (show debtR m w s u t = (-1) from by unfold debtR; rw [if_pos (by omega)] <;> first | rfl | omega)), congrArg (hp E) (Eq.symm (show debtM m w s u t = m from by unfold debtM; rw [if_pos (by omega)] <;> rfl))⟩
  · refine T.iload_n dX8_debt_11 rfl ?_
    refine T.cS1 (As := [.int (iI s)]) (st := []) dX8_debt_12 lk_X8_58 (c_isDay E _ (by unfold rg; omega)) (by decide) rfl rfl (Nat.le_of_ble_eq_true rfl) ?_
    refine T.ifB_eq 36 dX8_debt_15 (fun c2 => ?_) (fun c2 => ?_)
    · refine T.iconst dX8_debt_36 ?_
      exact T.iret dX8_debt_37 ⟨congrArg (fun z => some (Value.int (iI z))) (Eq.symm (show debtR m w s u t = (-1) from by unfold debtR; rw [if_pos (by omega)] <;> first | rfl | omega)), congrArg (hp E) (Eq.symm (show debtM m w s u t = m from by unfold debtM; rw [if_pos (by omega)] <;> rfl))⟩
    · refine T.iload_n dX8_debt_18 rfl ?_
      refine T.cS1 (As := [.int (iI u)]) (st := []) dX8_debt_19 lk_X8_58 (c_isDay E _ (by unfold rg; omega)) (by decide) rfl rfl (Nat.le_of_ble_eq_true rfl) ?_
      refine T.ifB_eq 36 dX8_debt_22 (fun c3 => ?_) (fun c3 => ?_)
      · refine T.iconst dX8_debt_36 ?_
        exact T.iret dX8_debt_37 ⟨congrArg (fun z => some (Value.int (iI z))) (Eq.symm (show debtR m w s u t = (-1) from by unfold debtR; rw [if_pos (by omega)] <;> first | rfl | omega)), congrArg (hp E) (Eq.symm (show debtM m w s u t = m from by unfold debtM; rw [if_pos (by omega)] <;> rfl))⟩
      · refine T.iload dX8_debt_25 rfl ?_
        refine T.iconst dX8_debt_27 ?_
        refine T.bipush dX8_debt_28 ?_
        refine T.cS1 (As := [.int (iI t), .int (iI 0), .int (iI 99)]) (st := []) dX8_debt_30 lk_X8_54 (c_within E _ (by unfold rg; omega) (by unfold rg; omega) (by unfold rg; omega)) (by decide) rfl rfl (Nat.le_of_ble_eq_true rfl) ?_
        refine T.ifB_ne 38 dX8_debt_33 (fun c4 => ?_) (fun c4 => ?_)
        · refine T.aload_n dX8_debt_38 rfl ?_
          refine T.mget (v := rf E 1 0 0) dX8_debt_39 fo_X8_10 ok0 rfl rfl ?_
          refine T.gI (z := m 1 0 0 1) dX8_debt_42 fo_X8_62 (ok1 (by decide)) rfl rfl rfl ?_
          have q5 : 0 ≤ m 1 0 0 1 ∧ m 1 0 0 1 ≤ 8 := hI 1 0 0 1
          refine T.bipush dX8_debt_45 ?_
          refine T.icmp_lt 53 dX8_debt_47 (by unfold rg; omega) (by unfold rg; omega) (fun c6 => ?_) (fun c6 => ?_)
          · refine T.aload_n dX8_debt_53 rfl ?_
            refine T.mget (v := rf E 1 0 0) dX8_debt_54 fo_X8_10 ok0 rfl rfl ?_
            refine T.mget (v := rf E 2 0 0) dX8_debt_57 fo_X8_66 (ok1 (by decide)) rfl rfl ?_
            refine T.aload_n dX8_debt_60 rfl ?_
            refine T.mget (v := rf E 1 0 0) dX8_debt_61 fo_X8_10 ok0 rfl rfl ?_
            refine T.gI (z := m 1 0 0 1) dX8_debt_64 fo_X8_62 (ok1 (by decide)) rfl rfl rfl ?_
            refine T.mald (C := RX2) (x := (m 1 0 0 1).toNat) dX8_debt_67 (ok2 (by decide)) (fun _ => rfl) rfl (by omega) (by omega) ?_
            refine T.iload_n dX8_debt_68 rfl ?_
            refine T.iload_n dX8_debt_69 rfl ?_
            refine T.iload_n dX8_debt_70 rfl ?_
            refine T.iload dX8_debt_71 rfl ?_
            refine T.cV0 (As := [.int (iI w), .int (iI s), .int (iI u), .int (iI t)]) (st := []) dX8_debt_73 lk_X8_70 (c_begin E m 0 (m 1 0 0 1).toNat w s u t (by decide) (by omega)) (ok5 (by decide) (by omega)) rfl rfl (by decide) rfl rfl (Nat.le_of_ble_eq_true rfl) ?_
            have hb1 : (begM m 0 (m 1 0 0 1).toNat w s u t) 1 0 0 1 = m 1 0 0 1 := rfl
            refine T.aload_n dX8_debt_76 rfl ?_
            refine T.mget (v := rf E 1 0 0) dX8_debt_77 fo_X8_10 ok0 rfl rfl ?_
            refine T.dup dX8_debt_80 ?_
            refine T.gI (z := (begM m 0 (m 1 0 0 1).toNat w s u t) 1 0 0 1) dX8_debt_81 fo_X8_62 (ok1 (by decide)) rfl rfl rfl ?_
            refine T.iconst dX8_debt_84 ?_
            refine T.iadd dX8_debt_85 ?_
            refine T.mputI dX8_debt_86 fp_X8_62 (ok1 (by decide)) rfl rfl (Nat.le_of_ble_eq_true rfl) ?_
            refine T.aload_n dX8_debt_89 rfl ?_
            refine T.mget (v := rf E 1 0 0) dX8_debt_90 fo_X8_10 ok0 rfl rfl ?_
            refine T.gI (z := ((begM m 0 (m 1 0 0 1).toNat w s u t) 1 0 0 1) + 1) dX8_debt_93 fo_X8_62 (ok1 (by decide)) rfl rfl (by simp [up]) ?_
            refine T.iconst dX8_debt_96 ?_
            refine T.isub dX8_debt_97 ?_
            exact T.iret dX8_debt_98 ⟨congrArg (fun z => some (Value.int (iI z))) (Eq.symm (show debtR m w s u t = (((begM m 0 (m 1 0 0 1).toNat w s u t) 1 0 0 1) + 1) - 1 from by unfold debtR; rw [if_neg (by omega), if_neg (by omega)] <;> first | rfl | omega)), congrArg (hp E) (Eq.symm (show debtM m w s u t = (up (begM m 0 (m 1 0 0 1).toNat w s u t) 1 0 0 1 (((begM m 0 (m 1 0 0 1).toNat w s u t) 1 0 0 1) + 1)) from by unfold debtM; rw [if_neg (by omega), if_neg (by omega)] <;> rfl))⟩
          · refine T.bipush dX8_debt_50 ?_
            exact T.iret dX8_debt_52 ⟨congrArg (fun z => some (Value.int (iI z))) (Eq.symm (show debtR m w s u t = (-3) from by unfold debtR; rw [if_neg (by omega), if_pos (by omega)] <;> first | rfl | omega)), congrArg (hp E) (Eq.symm (show debtM m w s u t = m from by unfold debtM; rw [if_neg (by omega), if_pos (by omega)] <;> rfl))⟩
        · refine T.iconst dX8_debt_36 ?_
          exact T.iret dX8_debt_37 ⟨congrArg (fun z => some (Value.int (iI z))) (Eq.symm (show debtR m w s u t = (-1) from by unfold debtR; rw [if_pos (by omega)] <;> first | rfl | omega)), congrArg (hp E) (Eq.symm (show debtM m w s u t = m from by unfold debtM; rw [if_pos (by omega)] <;> rfl))⟩
def addM (m : Mem) (b : Nat) (y w : Int) : Mem := up (up (up (up (up m 7 b (m 1 b 0 3).toNat 0 y) 7 b (m 1 b 0 3).toNat 1 w) 7 b (m 1 b 0 3).toNat 2 (-1)) 7 b (m 1 b 0 3).toNat 3 (-1)) 1 b 0 3 (m 1 b 0 3 + 1)
set_option maxHeartbeats 4000000 in
set_option maxRecDepth 100000 in
theorem c_addPay (E : Ev) (m : Mem) (b : Nat) (y w : Int) (hI : Inv m) (hb : b < 8) (hlt : m 1 b 0 3 < 12) : CT E 1 mX0_addPayment [rf E 1 b 0, .int (iI y), .int (iI w)] (hp E m) (none) (hp E (addM m b y w)) := by
  refine CT.go okX0_addPayment (Nat.le_of_ble_eq_true rfl) ?_
  show T E 1 mX0_addPayment 0 [some (rf E 1 b 0), some (.int (iI y)), some (.int (iI w)), none] [] (hp E m) _
  refine T.aload_n dX0_addPayment_0 rfl ?_
  refine T.gI (z := m 1 b 0 3) dX0_addPayment_1 fo_X0_27 (ok1 (by omega)) rfl rfl rfl ?_
  have q1 : 0 ≤ m 1 b 0 3 ∧ m 1 b 0 3 ≤ 12 := hI 1 b 0 3
  refine T.bipush dX0_addPayment_4 ?_
  refine T.icmp_ge 49 dX0_addPayment_6 (by unfold rg; omega) (by unfold rg; omega) (fun c2 => ?_) (fun c2 => ?_)
  · exact absurd c2 (by omega)
  · refine T.aload_n dX0_addPayment_9 rfl ?_
    refine T.mget (v := rf E 3 b 0) dX0_addPayment_10 fo_X0_23 (ok1 (by omega)) rfl rfl ?_
    refine T.aload_n dX0_addPayment_13 rfl ?_
    refine T.gI (z := m 1 b 0 3) dX0_addPayment_14 fo_X0_27 (ok1 (by omega)) rfl rfl rfl ?_
    refine T.mald (C := RX4) (x := (m 1 b 0 3).toNat) dX0_addPayment_17 (ok3 (by omega)) (fun _ => rfl) rfl (by omega) (by omega) ?_
    refine T.astore_n (ls' := [some (rf E 1 b 0), some (.int (iI y)), some (.int (iI w)), some (rf E 7 b ((m 1 b 0 3).toNat))]) dX0_addPayment_18 rfl ?_
    refine T.aload_n dX0_addPayment_19 rfl ?_
    refine T.iload_n dX0_addPayment_20 rfl ?_
    refine T.mputI dX0_addPayment_21 fp_X0_39 (ok7 (by omega) (by omega)) rfl rfl (Nat.le_of_ble_eq_true rfl) ?_
    refine T.aload_n dX0_addPayment_24 rfl ?_
    refine T.iload_n dX0_addPayment_25 rfl ?_
    refine T.mputI dX0_addPayment_26 fp_X0_42 (ok7 (by omega) (by omega)) rfl rfl (Nat.le_of_ble_eq_true rfl) ?_
    refine T.aload_n dX0_addPayment_29 rfl ?_
    refine T.iconst dX0_addPayment_30 ?_
    refine T.mputI dX0_addPayment_31 fp_X0_45 (ok7 (by omega) (by omega)) rfl rfl (Nat.le_of_ble_eq_true rfl) ?_
    refine T.aload_n dX0_addPayment_34 rfl ?_
    refine T.iconst dX0_addPayment_35 ?_
    refine T.mputI dX0_addPayment_36 fp_X0_48 (ok7 (by omega) (by omega)) rfl rfl (Nat.le_of_ble_eq_true rfl) ?_
    refine T.aload_n dX0_addPayment_39 rfl ?_
    refine T.dup dX0_addPayment_40 ?_
    refine T.gI (z := m 1 b 0 3) dX0_addPayment_41 fo_X0_27 (ok1 (by omega)) rfl rfl rfl ?_
    refine T.iconst dX0_addPayment_44 ?_
    refine T.iadd dX0_addPayment_45 ?_
    refine T.mputI dX0_addPayment_46 fp_X0_27 (ok1 (by omega)) rfl rfl (Nat.le_of_ble_eq_true rfl) ?_
    exact T.vret dX0_addPayment_49 ⟨rfl, rfl⟩
def payR (m : Mem) (y w : Int) : Int := if ¬ ((0 ≤ y ∧ y ≤ 299) ∧ 1 ≤ w ∧ w ≤ 9999) then -1 else if 12 ≤ m 1 0 0 3 then -3 else m 1 0 0 3
def payM (m : Mem) (y w : Int) : Mem := if ¬ ((0 ≤ y ∧ y ≤ 299) ∧ 1 ≤ w ∧ w ≤ 9999) then m else if 12 ≤ m 1 0 0 3 then m else addM m 0 y w
set_option maxHeartbeats 4000000 in
set_option maxRecDepth 100000 in
theorem c_pay (E : Ev) (m : Mem) (y w : Int) (hI : Inv m) (h1 : rg y) (h2 : rg w) : CT E 4 mX8_pay [rf E 0 0 0, .int (iI y), .int (iI w)] (hp E m) (some (.int (iI (payR m y w)))) (hp E (payM m y w)) := by
  refine CT.go okX8_pay (Nat.le_of_ble_eq_true rfl) ?_
  show T E 4 mX8_pay 0 [some (rf E 0 0 0), some (.int (iI y)), some (.int (iI w))] [] (hp E m) _
  unfold rg at h1 h2
  refine T.iload_n dX8_pay_0 rfl ?_
  refine T.iload_n dX8_pay_1 rfl ?_
  refine T.cS1 (As := [.int (iI y), .int (iI w)]) (st := []) dX8_pay_2 lk_X8_89 (c_isPayable E _ (by unfold rg; omega) (by unfold rg; omega)) (by decide) rfl rfl (Nat.le_of_ble_eq_true rfl) ?_
  refine T.ifB_ne 10 dX8_pay_5 (fun c1 => ?_) (fun c1 => ?_)
  · refine T.aload_n dX8_pay_10 rfl ?_
    refine T.mget (v := rf E 1 0 0) dX8_pay_11 fo_X8_10 ok0 rfl rfl ?_
    refine T.gI (z := m 1 0 0 3) dX8_pay_14 fo_X8_93 (ok1 (by decide)) rfl rfl rfl ?_
    have q2 : 0 ≤ m 1 0 0 3 ∧ m 1 0 0 3 ≤ 12 := hI 1 0 0 3
    refine T.bipush dX8_pay_17 ?_
    refine T.icmp_lt 25 dX8_pay_19 (by unfold rg; omega) (by unfold rg; omega) (fun c3 => ?_) (fun c3 => ?_)
    · refine T.aload_n dX8_pay_25 rfl ?_
      refine T.mget (v := rf E 1 0 0) dX8_pay_26 fo_X8_10 ok0 rfl rfl ?_
      refine T.iload_n dX8_pay_29 rfl ?_
      refine T.iload_n dX8_pay_30 rfl ?_
      refine T.cV0 (As := [.int (iI y), .int (iI w)]) (st := []) dX8_pay_31 lk_X8_96 (c_addPay E m 0 y w hI (by decide) (by omega)) (ok1 (by decide)) rfl rfl (by decide) rfl rfl (Nat.le_of_ble_eq_true rfl) ?_
      have hb1 : (addM m 0 y w) 1 0 0 3 = m 1 0 0 3 + 1 := up_self _ _ _ _ _ _
      refine T.aload_n dX8_pay_34 rfl ?_
      refine T.mget (v := rf E 1 0 0) dX8_pay_35 fo_X8_10 ok0 rfl rfl ?_
      refine T.gI (z := (addM m 0 y w) 1 0 0 3) dX8_pay_38 fo_X8_93 (ok1 (by decide)) rfl rfl rfl ?_
      refine T.iconst dX8_pay_41 ?_
      refine T.isub dX8_pay_42 ?_
      exact T.iret dX8_pay_43 ⟨congrArg (fun z => some (Value.int (iI z))) (Eq.symm (show payR m y w = ((addM m 0 y w) 1 0 0 3) - 1 from by unfold payR; rw [if_neg (by omega), if_neg (by omega)] <;> first | rfl | omega)), congrArg (hp E) (Eq.symm (show payM m y w = (addM m 0 y w) from by unfold payM; rw [if_neg (by omega), if_neg (by omega)] <;> rfl))⟩
    · refine T.bipush dX8_pay_22 ?_
      exact T.iret dX8_pay_24 ⟨congrArg (fun z => some (Value.int (iI z))) (Eq.symm (show payR m y w = (-3) from by unfold payR; rw [if_neg (by omega), if_pos (by omega)] <;> first | rfl | omega)), congrArg (hp E) (Eq.symm (show payM m y w = m from by unfold payM; rw [if_neg (by omega), if_pos (by omega)] <;> rfl))⟩
  · refine T.iconst dX8_pay_8 ?_
    exact T.iret dX8_pay_9 ⟨congrArg (fun z => some (Value.int (iI z))) (Eq.symm (show payR m y w = (-1) from by unfold payR; rw [if_pos (by omega)] <;> first | rfl | omega)), congrArg (hp E) (Eq.symm (show payM m y w = m from by unfold payM; rw [if_pos (by omega)] <;> rfl))⟩
def wordR (m : Mem) (p t d : Int) : Int := if ¬ ((0 ≤ p ∧ p ≤ m 1 0 0 3 - 1) ∧ (0 ≤ t ∧ t ≤ 1) ∧ (d = -1 ∨ (0 ≤ d ∧ d ≤ m 1 0 0 1 - 1))) then -101 else if t = 0 then m 7 0 p.toNat 2 else m 7 0 p.toNat 3
def wordM (m : Mem) (p t d : Int) : Mem := if ¬ ((0 ≤ p ∧ p ≤ m 1 0 0 3 - 1) ∧ (0 ≤ t ∧ t ≤ 1) ∧ (d = -1 ∨ (0 ≤ d ∧ d ≤ m 1 0 0 1 - 1))) then m else if t = 0 then up m 7 0 p.toNat 2 d else up m 7 0 p.toNat 3 d
set_option maxHeartbeats 4000000 in
set_option maxRecDepth 100000 in
theorem c_word (E : Ev) (m : Mem) (p t d : Int) (hI : Inv m) (h1 : rg p) (h2 : rg t) (h3 : rg d) : CT E 4 mX8_word [rf E 0 0 0, .int (iI p), .int (iI t), .int (iI d)] (hp E m) (some (.int (iI (wordR m p t d)))) (hp E (wordM m p t d)) := by
  refine CT.go okX8_word (Nat.le_of_ble_eq_true rfl) ?_
  show T E 4 mX8_word 0 [some (rf E 0 0 0), some (.int (iI p)), some (.int (iI t)), some (.int (iI d)), none, none] [] (hp E m) _
  unfold rg at h1 h2 h3
  refine T.aload_n dX8_word_0 rfl ?_
  refine T.iload_n dX8_word_1 rfl ?_
  refine T.cV1 (As := [.int (iI p)]) (st := []) dX8_word_2 lk_X8_113 (c_isPayment E m hI (by unfold rg; omega)) ok0 rfl rfl (by decide) rfl rfl (Nat.le_of_ble_eq_true rfl) ?_
  have n1 : (0 ≤ m 1 0 0 1 ∧ m 1 0 0 1 ≤ 8) ∧ 0 ≤ m 1 0 0 3 ∧ m 1 0 0 3 ≤ 12 := ⟨hI 1 0 0 1, hI 1 0 0 3⟩
  refine T.ifB_eq 25 dX8_word_5 (fun c2 => ?_) (fun c2 => ?_)
  · refine T.bipush dX8_word_25 ?_
    exact T.iret dX8_word_27 ⟨congrArg (fun z => some (Value.int (iI z))) (Eq.symm (show wordR m p t d = (-101) from by unfold wordR; rw [if_pos (by omega)] <;> first | rfl | omega)), congrArg (hp E) (Eq.symm (show wordM m p t d = m from by unfold wordM; rw [if_pos (by omega)] <;> rfl))⟩
  · refine T.iload_n dX8_word_8 rfl ?_
    refine T.iconst dX8_word_9 ?_
    refine T.iconst dX8_word_10 ?_
    refine T.cS1 (As := [.int (iI t), .int (iI 0), .int (iI 1)]) (st := []) dX8_word_11 lk_X8_54 (c_within E _ (by unfold rg; omega) (by unfold rg; omega) (by unfold rg; omega)) (by decide) rfl rfl (Nat.le_of_ble_eq_true rfl) ?_
    refine T.ifB_eq 25 dX8_word_14 (fun c3 => ?_) (fun c3 => ?_)
    · refine T.bipush dX8_word_25 ?_
      exact T.iret dX8_word_27 ⟨congrArg (fun z => some (Value.int (iI z))) (Eq.symm (show wordR m p t d = (-101) from by unfold wordR; rw [if_pos (by omega)] <;> first | rfl | omega)), congrArg (hp E) (Eq.symm (show wordM m p t d = m from by unfold wordM; rw [if_pos (by omega)] <;> rfl))⟩
    · refine T.aload_n dX8_word_17 rfl ?_
      refine T.iload_n dX8_word_18 rfl ?_
      refine T.cV1 (As := [.int (iI d)]) (st := []) dX8_word_19 lk_X8_116 (c_isDebtOrNone E m hI (by unfold rg; omega)) ok0 rfl rfl (by decide) rfl rfl (Nat.le_of_ble_eq_true rfl) ?_
      have n4 : (0 ≤ m 1 0 0 1 ∧ m 1 0 0 1 ≤ 8) ∧ 0 ≤ m 1 0 0 3 ∧ m 1 0 0 3 ≤ 12 := ⟨hI 1 0 0 1, hI 1 0 0 3⟩
      refine T.ifB_ne 28 dX8_word_22 (fun c5 => ?_) (fun c5 => ?_)
      · refine T.aload_n dX8_word_28 rfl ?_
        refine T.mget (v := rf E 1 0 0) dX8_word_29 fo_X8_10 ok0 rfl rfl ?_
        refine T.mget (v := rf E 3 0 0) dX8_word_32 fo_X8_119 (ok1 (by decide)) rfl rfl ?_
        refine T.iload_n dX8_word_35 rfl ?_
        refine T.mald (C := RX4) (x := p.toNat) dX8_word_36 (ok3 (by decide)) (fun _ => rfl) rfl (by omega) (by omega) ?_
        refine T.astore (ls' := [some (rf E 0 0 0), some (.int (iI p)), some (.int (iI t)), some (.int (iI d)), some (rf E 7 0 p.toNat), none]) dX8_word_37 rfl ?_
        refine T.iload_n dX8_word_39 rfl ?_
        refine T.if_ne 51 dX8_word_40 (by unfold rg; omega) (fun c6 => ?_) (fun c6 => ?_)
        · refine T.aload dX8_word_51 rfl ?_
          refine T.gI (z := m 7 0 p.toNat 3) dX8_word_53 fo_X8_128 (ok7 (by decide) (by omega)) rfl rfl rfl ?_
          have q7 : -1 ≤ m 7 0 p.toNat 3 ∧ m 7 0 p.toNat 3 ≤ 7 := hI 7 0 p.toNat 3
          refine T.istore (ls' := [some (rf E 0 0 0), some (.int (iI p)), some (.int (iI t)), some (.int (iI d)), some (rf E 7 0 p.toNat), some (.int (iI (m 7 0 p.toNat 3)))]) dX8_word_56 rfl ?_
          refine T.iload_n dX8_word_58 rfl ?_
          refine T.if_ne 71 dX8_word_59 (by unfold rg; omega) (fun c8 => ?_) (fun c8 => ?_)
          · refine T.aload dX8_word_71 rfl ?_
            refine T.iload_n dX8_word_73 rfl ?_
            refine T.mputI dX8_word_74 fp_X8_128 (ok7 (by decide) (by omega)) rfl rfl (Nat.le_of_ble_eq_true rfl) ?_
            refine T.iload dX8_word_77 rfl ?_
            exact T.iret dX8_word_79 ⟨congrArg (fun z => some (Value.int (iI z))) (Eq.symm (show wordR m p t d = m 7 0 p.toNat 3 from by unfold wordR; rw [if_neg (by omega), if_neg (by omega)] <;> first | rfl | omega)), congrArg (hp E) (Eq.symm (show wordM m p t d = (up m 7 0 p.toNat 3 d) from by unfold wordM; rw [if_neg (by omega), if_neg (by omega)] <;> rfl))⟩
          · refine T.aload dX8_word_62 rfl ?_
            refine T.iload_n dX8_word_64 rfl ?_
            refine T.mputI dX8_word_65 fp_X8_123 (ok7 (by decide) (by omega)) rfl rfl (Nat.le_of_ble_eq_true rfl) ?_
            refine T.goto 77 dX8_word_68 ?_
            refine T.iload dX8_word_77 rfl ?_
            exfalso; omega
        · refine T.aload dX8_word_43 rfl ?_
          refine T.gI (z := m 7 0 p.toNat 2) dX8_word_45 fo_X8_123 (ok7 (by decide) (by omega)) rfl rfl rfl ?_
          have q9 : -1 ≤ m 7 0 p.toNat 2 ∧ m 7 0 p.toNat 2 ≤ 7 := hI 7 0 p.toNat 2
          refine T.goto 56 dX8_word_48 ?_
          refine T.istore (ls' := [some (rf E 0 0 0), some (.int (iI p)), some (.int (iI t)), some (.int (iI d)), some (rf E 7 0 p.toNat), some (.int (iI (m 7 0 p.toNat 2)))]) dX8_word_56 rfl ?_
          refine T.iload_n dX8_word_58 rfl ?_
          refine T.if_ne 71 dX8_word_59 (by unfold rg; omega) (fun c10 => ?_) (fun c10 => ?_)
          · refine T.aload dX8_word_71 rfl ?_
            refine T.iload_n dX8_word_73 rfl ?_
            refine T.mputI dX8_word_74 fp_X8_128 (ok7 (by decide) (by omega)) rfl rfl (Nat.le_of_ble_eq_true rfl) ?_
            refine T.iload dX8_word_77 rfl ?_
            exfalso; omega
          · refine T.aload dX8_word_62 rfl ?_
            refine T.iload_n dX8_word_64 rfl ?_
            refine T.mputI dX8_word_65 fp_X8_123 (ok7 (by decide) (by omega)) rfl rfl (Nat.le_of_ble_eq_true rfl) ?_
            refine T.goto 77 dX8_word_68 ?_
            refine T.iload dX8_word_77 rfl ?_
            exact T.iret dX8_word_79 ⟨congrArg (fun z => some (Value.int (iI z))) (Eq.symm (show wordR m p t d = m 7 0 p.toNat 2 from by unfold wordR; rw [if_neg (by omega), if_pos (by omega)] <;> first | rfl | omega)), congrArg (hp E) (Eq.symm (show wordM m p t d = (up m 7 0 p.toNat 2 d) from by unfold wordM; rw [if_neg (by omega), if_pos (by omega)] <;> rfl))⟩
      · refine T.bipush dX8_word_25 ?_
        exact T.iret dX8_word_27 ⟨congrArg (fun z => some (Value.int (iI z))) (Eq.symm (show wordR m p t d = (-101) from by unfold wordR; rw [if_pos (by omega)] <;> first | rfl | omega)), congrArg (hp E) (Eq.symm (show wordM m p t d = m from by unfold wordM; rw [if_pos (by omega)] <;> rfl))⟩
def moveR (m : Mem) (p y : Int) : Int := if ¬ ((0 ≤ p ∧ p ≤ m 1 0 0 3 - 1) ∧ (0 ≤ y ∧ y ≤ 299)) then -1 else m 7 0 p.toNat 0
def moveM (m : Mem) (p y : Int) : Mem := if ¬ ((0 ≤ p ∧ p ≤ m 1 0 0 3 - 1) ∧ (0 ≤ y ∧ y ≤ 299)) then m else up m 7 0 p.toNat 0 y
set_option maxHeartbeats 4000000 in
set_option maxRecDepth 100000 in
theorem c_move (E : Ev) (m : Mem) (p y : Int) (hI : Inv m) (h1 : rg p) (h2 : rg y) : CT E 3 mX8_move [rf E 0 0 0, .int (iI p), .int (iI y)] (hp E m) (some (.int (iI (moveR m p y)))) (hp E (moveM m p y)) := by
  refine CT.go okX8_move (Nat.le_of_ble_eq_true rfl) ?_
  show T E 3 mX8_move 0 [some (rf E 0 0 0), some (.int (iI p)), some (.int (iI y)), none] [] (hp E m) _
  unfold rg at h1 h2
  refine T.aload_n dX8_move_0 rfl ?_
  refine T.iload_n dX8_move_1 rfl ?_
  refine T.cV1 (As := [.int (iI p)]) (st := []) dX8_move_2 lk_X8_113 (c_isPayment E m hI (by unfold rg; omega)) ok0 rfl rfl (by decide) rfl rfl (Nat.le_of_ble_eq_true rfl) ?_
  have n1 : (0 ≤ m 1 0 0 1 ∧ m 1 0 0 1 ≤ 8) ∧ 0 ≤ m 1 0 0 3 ∧ m 1 0 0 3 ≤ 12 := ⟨hI 1 0 0 1, hI 1 0 0 3⟩
  refine T.ifB_eq 15 dX8_move_5 (fun c2 => ?_) (fun c2 => ?_)
  · refine T.iconst dX8_move_15 ?_
    exact T.iret dX8_move_16 ⟨congrArg (fun z => some (Value.int (iI z))) (Eq.symm (show moveR m p y = (-1) from by unfold moveR; rw [if_pos (by omega)] <;> first | rfl | omega)), congrArg (hp E) (Eq.symm (show moveM m p y = m from by unfold moveM; rw [if_pos (by omega)] <;> rfl))⟩
  · refine T.iload_n dX8_move_8 rfl ?_
    refine T.cS1 (As := [.int (iI y)]) (st := []) dX8_move_9 lk_X8_58 (c_isDay E _ (by unfold rg; omega)) (by decide) rfl rfl (Nat.le_of_ble_eq_true rfl) ?_
    refine T.ifB_ne 17 dX8_move_12 (fun c3 => ?_) (fun c3 => ?_)
    · refine T.aload_n dX8_move_17 rfl ?_
      refine T.mget (v := rf E 1 0 0) dX8_move_18 fo_X8_10 ok0 rfl rfl ?_
      refine T.mget (v := rf E 3 0 0) dX8_move_21 fo_X8_119 (ok1 (by decide)) rfl rfl ?_
      refine T.iload_n dX8_move_24 rfl ?_
      refine T.mald (C := RX4) (x := p.toNat) dX8_move_25 (ok3 (by decide)) (fun _ => rfl) rfl (by omega) (by omega) ?_
      refine T.gI (z := m 7 0 p.toNat 0) dX8_move_26 fo_X8_131 (ok7 (by decide) (by omega)) rfl rfl rfl ?_
      have q4 : 0 ≤ m 7 0 p.toNat 0 ∧ m 7 0 p.toNat 0 ≤ 299 := hI 7 0 p.toNat 0
      refine T.istore_n (ls' := [some (rf E 0 0 0), some (.int (iI p)), some (.int (iI y)), some (.int (iI (m 7 0 p.toNat 0)))]) dX8_move_29 rfl ?_
      refine T.aload_n dX8_move_30 rfl ?_
      refine T.mget (v := rf E 1 0 0) dX8_move_31 fo_X8_10 ok0 rfl rfl ?_
      refine T.mget (v := rf E 3 0 0) dX8_move_34 fo_X8_119 (ok1 (by decide)) rfl rfl ?_
      refine T.iload_n dX8_move_37 rfl ?_
      refine T.mald (C := RX4) (x := p.toNat) dX8_move_38 (ok3 (by decide)) (fun _ => rfl) rfl (by omega) (by omega) ?_
      refine T.iload_n dX8_move_39 rfl ?_
      refine T.mputI dX8_move_40 fp_X8_131 (ok7 (by decide) (by omega)) rfl rfl (Nat.le_of_ble_eq_true rfl) ?_
      refine T.iload_n dX8_move_43 rfl ?_
      exact T.iret dX8_move_44 ⟨congrArg (fun z => some (Value.int (iI z))) (Eq.symm (show moveR m p y = m 7 0 p.toNat 0 from by unfold moveR; rw [if_neg (by omega)] <;> first | rfl | omega)), congrArg (hp E) (Eq.symm (show moveM m p y = (up m 7 0 p.toNat 0 y) from by unfold moveM; rw [if_neg (by omega)] <;> rfl))⟩
    · refine T.iconst dX8_move_15 ?_
      exact T.iret dX8_move_16 ⟨congrArg (fun z => some (Value.int (iI z))) (Eq.symm (show moveR m p y = (-1) from by unfold moveR; rw [if_pos (by omega)] <;> first | rfl | omega)), congrArg (hp E) (Eq.symm (show moveM m p y = m from by unfold moveM; rw [if_pos (by omega)] <;> rfl))⟩
def cntL (m : Mem) (b t : Nat) (c : Int) : Nat → Int
  | 0 => 0
  | d + 1 => cntL m b t c d + (if c ≤ m 6 b d t then 1 else 0)
theorem cntL_bd (m : Mem) (b t : Nat) (c : Int) : ∀ n : Nat, 0 ≤ cntL m b t c n ∧ cntL m b t c n ≤ n
  | 0 => by unfold cntL; omega
  | n + 1 => by
    have := cntL_bd m b t c n
    unfold cntL
    split <;> omega
set_option maxHeartbeats 4000000 in
set_option maxRecDepth 100000 in
theorem c_cnt_loop (E : Ev) (m : Mem) (b t : Nat) (c : Int) (hI : Inv m) (hb : b < 8) (ht : t < 6) (hc : -1 ≤ c ∧ c ≤ 1) (hT : ∀ d, -1 ≤ m 6 b d t ∧ m 6 b d t ≤ 299) (n : Nat) (hn : m 1 b 0 1 = n) : ∀ (k : Nat) (d : Nat), n - d = k → d ≤ n → T E 1 mX0_debtsWithAtLeast 5 [some (rf E 1 b 0), some (.int (iI (t : Int))), some (.int (iI c)), some (.int (iI (cntL m b t c d))), some (.int (iI (d : Int)))] [] (hp E m) (fun r' h' => r' = some (.int (iI (cntL m b t c n))) ∧ h' = hp E m) := by
  have hn8 : 0 ≤ m 1 b 0 1 ∧ m 1 b 0 1 ≤ 8 := hI 1 b 0 1
  intro k
  induction k using Nat.strongRecOn with
  | ind k ih =>
    intro d hk hdn
    have hTd := hT d
    have hcd := cntL_bd m b t c d
    refine T.iload dX0_debtsWithAtLeast_5 rfl ?_
    refine T.aload_n dX0_debtsWithAtLeast_7 rfl ?_
    refine T.gI (z := m 1 b 0 1) dX0_debtsWithAtLeast_8 fo_X0_17 (ok1 (by omega)) rfl rfl rfl ?_
    have q1 : 0 ≤ m 1 b 0 1 ∧ m 1 b 0 1 ≤ 8 := hI 1 b 0 1
    refine T.icmp_ge 39 dX0_debtsWithAtLeast_11 (by unfold rg; omega) (by unfold rg; omega) (fun c2 => ?_) (fun c2 => ?_)
    · refine T.iload_n dX0_debtsWithAtLeast_39 rfl ?_
      exact T.iret dX0_debtsWithAtLeast_40 ⟨by rw [show n = d from by omega], rfl⟩
    · refine T.aload_n dX0_debtsWithAtLeast_14 rfl ?_
      refine T.mget (v := rf E 2 b 0) dX0_debtsWithAtLeast_15 fo_X0_11 (ok1 (by omega)) rfl rfl ?_
      refine T.iload dX0_debtsWithAtLeast_18 rfl ?_
      refine T.mald (C := RX2) (x := d) dX0_debtsWithAtLeast_20 (ok2 (by omega)) (fun _ => rfl) rfl rfl (by omega) ?_
      refine T.mget (v := rf E 6 b d) dX0_debtsWithAtLeast_21 fo_X0_51 (ok5 (by omega) (by omega)) rfl rfl ?_
      refine T.iload_n dX0_debtsWithAtLeast_24 rfl ?_
      refine T.aI (z := m 6 b d t) (x := t) dX0_debtsWithAtLeast_25 (ok6 (by omega) (by omega)) (fun _ => rfl) rfl (by omega) rfl ?_
      refine T.iload_n dX0_debtsWithAtLeast_26 rfl ?_
      refine T.icmp_lt 33 dX0_debtsWithAtLeast_27 (by unfold rg; omega) (by unfold rg; omega) (fun c3 => ?_) (fun c3 => ?_)
      · refine T.iinc (ls' := [some (rf E 1 b 0), some (.int (iI (t : Int))), some (.int (iI c)), some (.int (iI (cntL m b t c d))), some (.int (iI ((d : Int) + 1)))]) dX0_debtsWithAtLeast_33 rfl rfl ?_
        refine T.goto 5 dX0_debtsWithAtLeast_36 ?_
        have hq : cntL m b t c (d + 1) = cntL m b t c d := by
          show cntL m b t c d + (if c ≤ m 6 b d t then 1 else 0) = _
          rw [if_neg (by omega), Int.add_zero]
        rw [← hq]
        exact ih (n - (d + 1)) (by omega) (d + 1) rfl (by omega)
      · refine T.iinc (ls' := [some (rf E 1 b 0), some (.int (iI (t : Int))), some (.int (iI c)), some (.int (iI (cntL m b t c d + 1))), some (.int (iI (d : Int)))]) dX0_debtsWithAtLeast_30 rfl rfl ?_
        refine T.iinc (ls' := [some (rf E 1 b 0), some (.int (iI (t : Int))), some (.int (iI c)), some (.int (iI (cntL m b t c d + 1))), some (.int (iI ((d : Int) + 1)))]) dX0_debtsWithAtLeast_33 rfl rfl ?_
        refine T.goto 5 dX0_debtsWithAtLeast_36 ?_
        have hq : cntL m b t c (d + 1) = cntL m b t c d + 1 := by
          show cntL m b t c d + (if c ≤ m 6 b d t then 1 else 0) = _
          rw [if_pos (by omega)]
        rw [← hq]
        exact ih (n - (d + 1)) (by omega) (d + 1) rfl (by omega)
set_option maxHeartbeats 4000000 in
set_option maxRecDepth 100000 in
theorem c_cnt (E : Ev) (m : Mem) (b t : Nat) (c : Int) (hI : Inv m) (hb : b < 8) (ht : t < 6) (hc : -1 ≤ c ∧ c ≤ 1) (hT : ∀ d, -1 ≤ m 6 b d t ∧ m 6 b d t ≤ 299) : CT E 1 mX0_debtsWithAtLeast [rf E 1 b 0, .int (iI (t : Int)), .int (iI c)] (hp E m) (some (.int (iI (cntL m b t c (m 1 b 0 1).toNat)))) (hp E m) := by
  refine CT.go okX0_debtsWithAtLeast (Nat.le_of_ble_eq_true rfl) ?_
  show T E 1 mX0_debtsWithAtLeast 0 [some (rf E 1 b 0), some (.int (iI (t : Int))), some (.int (iI c)), none, none] [] (hp E m) _
  have hn8 : 0 ≤ m 1 b 0 1 ∧ m 1 b 0 1 ≤ 8 := hI 1 b 0 1
  refine T.iconst dX0_debtsWithAtLeast_0 ?_
  refine T.istore_n (ls' := [some (rf E 1 b 0), some (.int (iI (t : Int))), some (.int (iI c)), some (.int (iI 0)), none]) dX0_debtsWithAtLeast_1 rfl ?_
  refine T.iconst dX0_debtsWithAtLeast_2 ?_
  refine T.istore (ls' := [some (rf E 1 b 0), some (.int (iI (t : Int))), some (.int (iI c)), some (.int (iI 0)), some (.int (iI 0))]) dX0_debtsWithAtLeast_3 rfl ?_
  exact c_cnt_loop E m b t c hI hb ht hc hT _ (Int.toNat_of_nonneg hn8.1).symm _ 0 rfl (Nat.zero_le _)
def countR (m : Mem) (t : Int) : Int := if t = 0 then m 1 0 0 1 else if t = 1 then m 1 0 0 3 else if t = 2 then cntL m 0 1 0 (m 1 0 0 1).toNat else if t = 3 then cntL m 0 2 1 (m 1 0 0 1).toNat else -1
def countM (m : Mem) (t : Int) : Mem := if t = 0 then m else if t = 1 then m else if t = 2 then m else if t = 3 then m else m
set_option maxHeartbeats 4000000 in
set_option maxRecDepth 100000 in
theorem c_count (E : Ev) (m : Mem) (t : Int) (hI : Inv m) (h1 : rg t) : CT E 2 mX8_count [rf E 0 0 0, .int (iI t)] (hp E m) (some (.int (iI (countR m t)))) (hp E (countM m t)) := by
  refine CT.go okX8_count (Nat.le_of_ble_eq_true rfl) ?_
  show T E 2 mX8_count 0 [some (rf E 0 0 0), some (.int (iI t))] [] (hp E m) _
  unfold rg at h1
  refine T.iload_n dX8_count_0 rfl ?_
  by_cases e0 : t = 0
  · refine T.tableIn 32 dX8_count_1 (by unfold rg; omega) (by omega) (by omega) (by subst e0; rfl) ?_
    refine T.aload_n dX8_count_32 rfl ?_
    refine T.mget (v := rf E 1 0 0) dX8_count_33 fo_X8_10 ok0 rfl rfl ?_
    refine T.gI (z := m 1 0 0 1) dX8_count_36 fo_X8_62 (ok1 (by decide)) rfl rfl rfl ?_
    have q1 : 0 ≤ m 1 0 0 1 ∧ m 1 0 0 1 ≤ 8 := hI 1 0 0 1
    exact T.iret dX8_count_39 ⟨congrArg (fun z => some (Value.int (iI z))) (Eq.symm (show countR m t = m 1 0 0 1 from by unfold countR; rw [if_pos (by omega)] <;> first | rfl | omega)), congrArg (hp E) (Eq.symm (show countM m t = m from by unfold countM; rw [if_pos (by omega)] <;> rfl))⟩
  by_cases e1 : t = 1
  · refine T.tableIn 40 dX8_count_1 (by unfold rg; omega) (by omega) (by omega) (by subst e1; rfl) ?_
    refine T.aload_n dX8_count_40 rfl ?_
    refine T.mget (v := rf E 1 0 0) dX8_count_41 fo_X8_10 ok0 rfl rfl ?_
    refine T.gI (z := m 1 0 0 3) dX8_count_44 fo_X8_93 (ok1 (by decide)) rfl rfl rfl ?_
    have q2 : 0 ≤ m 1 0 0 3 ∧ m 1 0 0 3 ≤ 12 := hI 1 0 0 3
    exact T.iret dX8_count_47 ⟨congrArg (fun z => some (Value.int (iI z))) (Eq.symm (show countR m t = m 1 0 0 3 from by unfold countR; rw [if_neg (by omega), if_pos (by omega)] <;> first | rfl | omega)), congrArg (hp E) (Eq.symm (show countM m t = m from by unfold countM; rw [if_neg (by omega), if_pos (by omega)] <;> rfl))⟩
  by_cases e2 : t = 2
  · refine T.tableIn 48 dX8_count_1 (by unfold rg; omega) (by omega) (by omega) (by subst e2; rfl) ?_
    refine T.aload_n dX8_count_48 rfl ?_
    refine T.mget (v := rf E 1 0 0) dX8_count_49 fo_X8_10 ok0 rfl rfl ?_
    refine T.iconst dX8_count_52 ?_
    refine T.iconst dX8_count_53 ?_
    refine T.cV1 (As := [.int (iI 1), .int (iI 0)]) (st := []) dX8_count_54 lk_X8_134 (c_cnt E m 0 1 0 hI (by decide) (by decide) (by omega) (fun d => by have h0 : -1 ≤ m 6 0 d 1 ∧ m 6 0 d 1 ≤ 5 := hI 6 0 d 1; omega)) (ok1 (by decide)) rfl rfl (by decide) rfl rfl (Nat.le_of_ble_eq_true rfl) ?_
    exact T.iret dX8_count_57 ⟨congrArg (fun z => some (Value.int (iI z))) (Eq.symm (show countR m t = cntL m 0 1 0 (m 1 0 0 1).toNat from by unfold countR; rw [if_neg (by omega), if_neg (by omega), if_pos (by omega)] <;> first | rfl | omega)), congrArg (hp E) (Eq.symm (show countM m t = m from by unfold countM; rw [if_neg (by omega), if_neg (by omega), if_pos (by omega)] <;> rfl))⟩
  by_cases e3 : t = 3
  · refine T.tableIn 58 dX8_count_1 (by unfold rg; omega) (by omega) (by omega) (by subst e3; rfl) ?_
    refine T.aload_n dX8_count_58 rfl ?_
    refine T.mget (v := rf E 1 0 0) dX8_count_59 fo_X8_10 ok0 rfl rfl ?_
    refine T.iconst dX8_count_62 ?_
    refine T.iconst dX8_count_63 ?_
    refine T.cV1 (As := [.int (iI 2), .int (iI 1)]) (st := []) dX8_count_64 lk_X8_134 (c_cnt E m 0 2 1 hI (by decide) (by decide) (by omega) (fun d => by have h0 : 0 ≤ m 6 0 d 2 ∧ m 6 0 d 2 ≤ 1 := hI 6 0 d 2; omega)) (ok1 (by decide)) rfl rfl (by decide) rfl rfl (Nat.le_of_ble_eq_true rfl) ?_
    exact T.iret dX8_count_67 ⟨congrArg (fun z => some (Value.int (iI z))) (Eq.symm (show countR m t = cntL m 0 2 1 (m 1 0 0 1).toNat from by unfold countR; rw [if_neg (by omega), if_neg (by omega), if_neg (by omega), if_pos (by omega)] <;> first | rfl | omega)), congrArg (hp E) (Eq.symm (show countM m t = m from by unfold countM; rw [if_neg (by omega), if_neg (by omega), if_neg (by omega), if_pos (by omega)] <;> rfl))⟩
  refine T.tableOut 68 dX8_count_1 (by unfold rg; omega) (by omega) ?_
  refine T.iconst dX8_count_68 ?_
  exact T.iret dX8_count_69 ⟨congrArg (fun z => some (Value.int (iI z))) (Eq.symm (show countR m t = (-1) from by unfold countR; rw [if_neg (by omega), if_neg (by omega), if_neg (by omega), if_neg (by omega)] <;> first | rfl | omega)), congrArg (hp E) (Eq.symm (show countM m t = m from by unfold countM; rw [if_neg (by omega), if_neg (by omega), if_neg (by omega), if_neg (by omega)] <;> rfl))⟩
