noncomputable def nleftR (S : PS) (l d y t : Int) : Int := if ¬ ((0 ≤ l ∧ l ≤ 1) ∧ (0 ≤ d ∧ d ≤ S 29 0 - 1) ∧ (0 ≤ y ∧ y ≤ 299) ∧ (0 ≤ t ∧ t ≤ 2)) then -1 else if t = 0 then (mdS S l.toNat (y + 1).toNat) 39 d.toNat else if t = 1 then (mdS S l.toNat (y + 1).toNat) 40 d.toNat else (mdS S l.toNat (y + 1).toNat) 39 d.toNat + (mdS S l.toNat (y + 1).toNat) 40 d.toNat
noncomputable def nleftS (S : PS) (l d y t : Int) : PS := if ¬ ((0 ≤ l ∧ l ≤ 1) ∧ (0 ≤ d ∧ d ≤ S 29 0 - 1) ∧ (0 ≤ y ∧ y ≤ 299) ∧ (0 ≤ t ∧ t ≤ 2)) then S else if t = 0 then (mdS S l.toNat (y + 1).toNat) else if t = 1 then (mdS S l.toNat (y + 1).toNat) else (mdS S l.toNat (y + 1).toNat)
set_option maxHeartbeats 4000000 in
set_option maxRecDepth 100000 in
theorem n_left (E : Ev) (m : Mem) (S : PS) (l d y t : Int) (hS : InvS kM S) (hO : mOK S) (h1 : rg l) (h2 : rg d) (h3 : rg y) (h4 : rg t) : CT E 9 mX9_left [rf E 29 0 0, .int (iI l), .int (iI d), .int (iI y), .int (iI t)] (hp E (wrM m S)) (some (.long (lI (nleftR S l d y t)))) (hp E (wrM m (nleftS S l d y t))) := by
  refine CT.go okX9_left (Nat.le_of_ble_eq_true rfl) ?_
  show T E 9 mX9_left 0 [some (rf E 29 0 0), some (.int (iI l)), some (.int (iI d)), some (.int (iI y)), some (.int (iI t))] [] (hp E (wrM m S)) _
  unfold rg at h1 h2 h3 h4
  refine T.iload_n dX9_left_0 rfl ?_
  refine T.cS1 (As := [.int (iI l)]) (st := []) dX9_left_1 lk_X9_129 (n_isLaw E _ (by unfold rg; omega)) (by decide) rfl rfl (Nat.le_of_ble_eq_true rfl) ?_
  refine T.ifB_eq 35 dX9_left_4 (fun c1 => ?_) (fun c1 => ?_)
  · refine T.ldc2 dX9_left_35 kl_X9_107 ?_
    exact T.lret dX9_left_38 ⟨congrArg (fun z => some (Value.long (lI z))) (Eq.symm (show nleftR S l d y t = (-1) from by unfold nleftR; rw [if_pos (by omega)] <;> first | rfl | omega)), congrArg (fun z => hp E (wrM m z)) (Eq.symm (show nleftS S l d y t = S from by unfold nleftS; rw [if_pos (by omega)] <;> rfl))⟩
  · refine T.aload_n dX9_left_7 rfl ?_
    refine T.iload_n dX9_left_8 rfl ?_
    refine T.cV1 (As := [.int (iI d)]) (st := []) dX9_left_9 lk_X9_102 (n_isDebt E m S hS (by unfold rg; omega)) ok29 rfl rfl (by decide) rfl rfl (Nat.le_of_ble_eq_true rfl) ?_
    have n2 : (0 ≤ S 29 0 ∧ S 29 0 ≤ 8) ∧ 0 ≤ S 29 2 ∧ S 29 2 ≤ 12 := ⟨hS 29 0 rfl, hS 29 2 rfl⟩
    refine T.ifB_eq 35 dX9_left_12 (fun c3 => ?_) (fun c3 => ?_)
    · refine T.ldc2 dX9_left_35 kl_X9_107 ?_
      exact T.lret dX9_left_38 ⟨congrArg (fun z => some (Value.long (lI z))) (Eq.symm (show nleftR S l d y t = (-1) from by unfold nleftR; rw [if_pos (by omega)] <;> first | rfl | omega)), congrArg (fun z => hp E (wrM m z)) (Eq.symm (show nleftS S l d y t = S from by unfold nleftS; rw [if_pos (by omega)] <;> rfl))⟩
    · refine T.iload_n dX9_left_15 rfl ?_
      refine T.cS1 (As := [.int (iI y)]) (st := []) dX9_left_16 lk_X9_96 (n_isDay E _ (by unfold rg; omega)) (by decide) rfl rfl (Nat.le_of_ble_eq_true rfl) ?_
      refine T.ifB_eq 35 dX9_left_19 (fun c4 => ?_) (fun c4 => ?_)
      · refine T.ldc2 dX9_left_35 kl_X9_107 ?_
        exact T.lret dX9_left_38 ⟨congrArg (fun z => some (Value.long (lI z))) (Eq.symm (show nleftR S l d y t = (-1) from by unfold nleftR; rw [if_pos (by omega)] <;> first | rfl | omega)), congrArg (fun z => hp E (wrM m z)) (Eq.symm (show nleftS S l d y t = S from by unfold nleftS; rw [if_pos (by omega)] <;> rfl))⟩
      · refine T.iload dX9_left_22 rfl ?_
        refine T.i2l dX9_left_24 (by unfold rg; omega) ?_
        refine T.lconst0 dX9_left_25 ?_
        refine T.ldc2 dX9_left_26 kl_X9_193 ?_
        refine T.cS1 (As := [.long (lI t), .long (lI 0), .long (lI 2)]) (st := []) dX9_left_29 lk_X9_83 (n_in E _ (by unfold rl; omega) (by unfold rl; omega) (by unfold rl; omega)) (by decide) rfl rfl (Nat.le_of_ble_eq_true rfl) ?_
        refine T.ifB_ne 39 dX9_left_32 (fun c5 => ?_) (fun c5 => ?_)
        · refine T.aload_n dX9_left_39 rfl ?_
          refine T.iload_n dX9_left_40 rfl ?_
          refine T.iload_n dX9_left_41 rfl ?_
          refine T.cV0 (As := [.int (iI l), .int (iI y)]) (st := []) dX9_left_42 lk_X9_186 (by have h0 := n_goTo E m S (l).toNat y hS hO (by omega) (by omega); rw [show (((l).toNat : Nat) : Int) = l from by omega] at h0; exact h0) ok29 rfl rfl (by decide) rfl rfl (Nat.le_of_ble_eq_true rfl) ?_
          refine T.iload dX9_left_45 rfl ?_
          refine T.if_ne 59 dX9_left_47 (by unfold rg; omega) (fun c6 => ?_) (fun c6 => ?_)
          · refine T.iload dX9_left_59 rfl ?_
            refine T.iconst dX9_left_61 ?_
            refine T.icmp_ne 74 dX9_left_62 (by unfold rg; omega) (by unfold rg; omega) (fun c7 => ?_) (fun c7 => ?_)
            · refine T.aload_n dX9_left_74 rfl ?_
              refine T.iload_n dX9_left_75 rfl ?_
              refine T.cV1 (As := [.int (iI d)]) (st := []) dX9_left_76 lk_X9_137 (by have h0 := n_leftOf E m (mdS S (l).toNat (y + 1).toNat) (d).toNat (by omega); rw [show (((d).toNat : Nat) : Int) = d from by omega] at h0; exact h0) ok29 rfl rfl (by decide) rfl rfl (Nat.le_of_ble_eq_true rfl) ?_
              exact T.lret dX9_left_79 ⟨congrArg (fun z => some (Value.long (lI z))) (Eq.symm (show nleftR S l d y t = (mdS S (l).toNat (y + 1).toNat) 39 (d).toNat + (mdS S (l).toNat (y + 1).toNat) 40 (d).toNat from by unfold nleftR; rw [if_neg (by omega), if_neg (by omega), if_neg (by omega)] <;> first | rfl | omega)), congrArg (fun z => hp E (wrM m z)) (Eq.symm (show nleftS S l d y t = (mdS S (l).toNat (y + 1).toNat) from by unfold nleftS; rw [if_neg (by omega), if_neg (by omega), if_neg (by omega)] <;> rfl))⟩
            · refine T.aload_n dX9_left_65 rfl ?_
              refine T.mget (v := rf E 40 0 0) dX9_left_66 fo_X9_32 ok29 rfl rfl ?_
              refine T.iload_n dX9_left_69 rfl ?_
              refine T.aL (z := (mdS S (l).toNat (y + 1).toNat) 40 d.toNat) (x := d.toNat) dX9_left_70 ok40 (fun _ => rfl) (by omega) (by omega) (wrM_c rfl) ?_
              refine T.goto 79 dX9_left_71 ?_
              exact T.lret dX9_left_79 ⟨congrArg (fun z => some (Value.long (lI z))) (Eq.symm (show nleftR S l d y t = (mdS S (l).toNat (y + 1).toNat) 40 d.toNat from by unfold nleftR; rw [if_neg (by omega), if_neg (by omega), if_pos (by omega)] <;> first | rfl | omega)), congrArg (fun z => hp E (wrM m z)) (Eq.symm (show nleftS S l d y t = (mdS S (l).toNat (y + 1).toNat) from by unfold nleftS; rw [if_neg (by omega), if_neg (by omega), if_pos (by omega)] <;> rfl))⟩
          · refine T.aload_n dX9_left_50 rfl ?_
            refine T.mget (v := rf E 39 0 0) dX9_left_51 fo_X9_28 ok29 rfl rfl ?_
            refine T.iload_n dX9_left_54 rfl ?_
            refine T.aL (z := (mdS S (l).toNat (y + 1).toNat) 39 d.toNat) (x := d.toNat) dX9_left_55 ok39 (fun _ => rfl) (by omega) (by omega) (wrM_c rfl) ?_
            refine T.goto 79 dX9_left_56 ?_
            exact T.lret dX9_left_79 ⟨congrArg (fun z => some (Value.long (lI z))) (Eq.symm (show nleftR S l d y t = (mdS S (l).toNat (y + 1).toNat) 39 d.toNat from by unfold nleftR; rw [if_neg (by omega), if_pos (by omega)] <;> first | rfl | omega)), congrArg (fun z => hp E (wrM m z)) (Eq.symm (show nleftS S l d y t = (mdS S (l).toNat (y + 1).toNat) from by unfold nleftS; rw [if_neg (by omega), if_pos (by omega)] <;> rfl))⟩
        · refine T.ldc2 dX9_left_35 kl_X9_107 ?_
          exact T.lret dX9_left_38 ⟨congrArg (fun z => some (Value.long (lI z))) (Eq.symm (show nleftR S l d y t = (-1) from by unfold nleftR; rw [if_pos (by omega)] <;> first | rfl | omega)), congrArg (fun z => hp E (wrM m z)) (Eq.symm (show nleftS S l d y t = S from by unfold nleftS; rw [if_pos (by omega)] <;> rfl))⟩
noncomputable def nowedR (S : PS) (l y : Int) : Int := if ¬ ((0 ≤ l ∧ l ≤ 1) ∧ (0 ≤ y ∧ y ≤ 299)) then -1 else owM (mdS S l.toNat (y + 1).toNat) (S 29 0).toNat
noncomputable def nowedS (S : PS) (l y : Int) : PS := if ¬ ((0 ≤ l ∧ l ≤ 1) ∧ (0 ≤ y ∧ y ≤ 299)) then S else (mdS S l.toNat (y + 1).toNat)
set_option maxHeartbeats 4000000 in
set_option maxRecDepth 100000 in
theorem n_owed (E : Ev) (m : Mem) (S : PS) (l y : Int) (hS : InvS kM S) (hO : mOK S) (h1 : rg l) (h2 : rg y) : CT E 9 mX9_owed [rf E 29 0 0, .int (iI l), .int (iI y)] (hp E (wrM m S)) (some (.long (lI (nowedR S l y)))) (hp E (wrM m (nowedS S l y))) := by
  refine CT.go okX9_owed (Nat.le_of_ble_eq_true rfl) ?_
  show T E 9 mX9_owed 0 [some (rf E 29 0 0), some (.int (iI l)), some (.int (iI y))] [] (hp E (wrM m S)) _
  unfold rg at h1 h2
  refine T.iload_n dX9_owed_0 rfl ?_
  refine T.cS1 (As := [.int (iI l)]) (st := []) dX9_owed_1 lk_X9_129 (n_isLaw E _ (by unfold rg; omega)) (by decide) rfl rfl (Nat.le_of_ble_eq_true rfl) ?_
  refine T.ifB_eq 23 dX9_owed_4 (fun c1 => ?_) (fun c1 => ?_)
  · refine T.ldc2 dX9_owed_23 kl_X9_107 ?_
    exact T.lret dX9_owed_26 ⟨congrArg (fun z => some (Value.long (lI z))) (Eq.symm (show nowedR S l y = (-1) from by unfold nowedR; rw [if_pos (by omega)] <;> first | rfl | omega)), congrArg (fun z => hp E (wrM m z)) (Eq.symm (show nowedS S l y = S from by unfold nowedS; rw [if_pos (by omega)] <;> rfl))⟩
  · refine T.iload_n dX9_owed_7 rfl ?_
    refine T.cS1 (As := [.int (iI y)]) (st := []) dX9_owed_8 lk_X9_96 (n_isDay E _ (by unfold rg; omega)) (by decide) rfl rfl (Nat.le_of_ble_eq_true rfl) ?_
    refine T.ifB_eq 23 dX9_owed_11 (fun c2 => ?_) (fun c2 => ?_)
    · refine T.ldc2 dX9_owed_23 kl_X9_107 ?_
      exact T.lret dX9_owed_26 ⟨congrArg (fun z => some (Value.long (lI z))) (Eq.symm (show nowedR S l y = (-1) from by unfold nowedR; rw [if_pos (by omega)] <;> first | rfl | omega)), congrArg (fun z => hp E (wrM m z)) (Eq.symm (show nowedS S l y = S from by unfold nowedS; rw [if_pos (by omega)] <;> rfl))⟩
    · refine T.aload_n dX9_owed_14 rfl ?_
      refine T.iload_n dX9_owed_15 rfl ?_
      refine T.iload_n dX9_owed_16 rfl ?_
      refine T.cV1 (As := [.int (iI l), .int (iI y)]) (st := []) dX9_owed_17 lk_X9_195 (by have h0 := n_owedOn E m S (l).toNat y hS hO (by omega) (by omega); rw [show (((l).toNat : Nat) : Int) = l from by omega] at h0; exact h0) ok29 rfl rfl (by decide) rfl rfl (Nat.le_of_ble_eq_true rfl) ?_
      refine T.goto 26 dX9_owed_20 ?_
      exact T.lret dX9_owed_26 ⟨congrArg (fun z => some (Value.long (lI z))) (Eq.symm (show nowedR S l y = owM (mdS S (l).toNat (y + 1).toNat) (S 29 0).toNat from by unfold nowedR; rw [if_neg (by omega)] <;> first | rfl | omega)), congrArg (fun z => hp E (wrM m z)) (Eq.symm (show nowedS S l y = (mdS S (l).toNat (y + 1).toNat) from by unfold nowedS; rw [if_neg (by omega)] <;> rfl))⟩
noncomputable def nwakesR (S : PS) (N : Nat) (l d : Int) : Int := if ¬ ((0 ≤ l ∧ l ≤ 1) ∧ (0 ≤ d ∧ d ≤ S 29 0 - 1)) then -1 else (mdS S l.toNat N) 42 d.toNat
noncomputable def nwakesS (S : PS) (N : Nat) (l d : Int) : PS := if ¬ ((0 ≤ l ∧ l ≤ 1) ∧ (0 ≤ d ∧ d ≤ S 29 0 - 1)) then S else (mdS S l.toNat N)
set_option maxHeartbeats 4000000 in
set_option maxRecDepth 100000 in
theorem n_wakes (E : Ev) (m : Mem) (S : PS) (N : Nat) (l d : Int) (hS : InvS kM S) (hN : N = 300) (hO : mOK S) (h1 : rg l) (h2 : rg d) : CT E 9 mX9_wakes [rf E 29 0 0, .int (iI l), .int (iI d)] (hp E (wrM m S)) (some (.int (iI (nwakesR S N l d)))) (hp E (wrM m (nwakesS S N l d))) := by
  refine CT.go okX9_wakes (Nat.le_of_ble_eq_true rfl) ?_
  show T E 9 mX9_wakes 0 [some (rf E 29 0 0), some (.int (iI l)), some (.int (iI d))] [] (hp E (wrM m S)) _
  unfold rg at h1 h2
  refine T.iload_n dX9_wakes_0 rfl ?_
  refine T.cS1 (As := [.int (iI l)]) (st := []) dX9_wakes_1 lk_X9_129 (n_isLaw E _ (by unfold rg; omega)) (by decide) rfl rfl (Nat.le_of_ble_eq_true rfl) ?_
  refine T.ifB_eq 15 dX9_wakes_4 (fun c1 => ?_) (fun c1 => ?_)
  · refine T.iconst dX9_wakes_15 ?_
    exact T.iret dX9_wakes_16 ⟨congrArg (fun z => some (Value.int (iI z))) (Eq.symm (show nwakesR S N l d = (-1) from by unfold nwakesR; rw [if_pos (by omega)] <;> first | rfl | omega)), congrArg (fun z => hp E (wrM m z)) (Eq.symm (show nwakesS S N l d = S from by unfold nwakesS; rw [if_pos (by omega)] <;> rfl))⟩
  · refine T.aload_n dX9_wakes_7 rfl ?_
    refine T.iload_n dX9_wakes_8 rfl ?_
    refine T.cV1 (As := [.int (iI d)]) (st := []) dX9_wakes_9 lk_X9_102 (n_isDebt E m S hS (by unfold rg; omega)) ok29 rfl rfl (by decide) rfl rfl (Nat.le_of_ble_eq_true rfl) ?_
    have n2 : (0 ≤ S 29 0 ∧ S 29 0 ≤ 8) ∧ 0 ≤ S 29 2 ∧ S 29 2 ≤ 12 := ⟨hS 29 0 rfl, hS 29 2 rfl⟩
    refine T.ifB_ne 17 dX9_wakes_12 (fun c3 => ?_) (fun c3 => ?_)
    · refine T.aload_n dX9_wakes_17 rfl ?_
      refine T.iload_n dX9_wakes_18 rfl ?_
      refine T.sipush dX9_wakes_19 ?_
      refine T.cV0 (As := [.int (iI l), .int (iI 299)]) (st := []) dX9_wakes_22 lk_X9_186 (by have h0 := n_goTo E m S l.toNat 299 hS hO (by omega) (by omega); rw [show ((l.toNat : Nat) : Int) = l from by omega, show (299 + 1 : Int).toNat = N from by rw [hN]; rfl] at h0; exact h0) ok29 rfl rfl (by decide) rfl rfl (Nat.le_of_ble_eq_true rfl) ?_
      refine T.aload_n dX9_wakes_25 rfl ?_
      refine T.mget (v := rf E 42 0 0) dX9_wakes_26 fo_X9_38 ok29 rfl rfl ?_
      refine T.iload_n dX9_wakes_29 rfl ?_
      refine T.aI (z := (mdS S l.toNat N) 42 d.toNat) (x := d.toNat) dX9_wakes_30 ok42 (fun _ => rfl) (by omega) (by omega) (wrM_c rfl) ?_
      exact T.iret dX9_wakes_31 ⟨congrArg (fun z => some (Value.int (iI z))) (Eq.symm (show nwakesR S N l d = (mdS S l.toNat N) 42 d.toNat from by unfold nwakesR; rw [if_neg (by omega)] <;> first | rfl | omega)), congrArg (fun z => hp E (wrM m z)) (Eq.symm (show nwakesS S N l d = (mdS S l.toNat N) from by unfold nwakesS; rw [if_neg (by omega)] <;> rfl))⟩
    · refine T.iconst dX9_wakes_15 ?_
      exact T.iret dX9_wakes_16 ⟨congrArg (fun z => some (Value.int (iI z))) (Eq.symm (show nwakesR S N l d = (-1) from by unfold nwakesR; rw [if_pos (by omega)] <;> first | rfl | omega)), congrArg (fun z => hp E (wrM m z)) (Eq.symm (show nwakesS S N l d = S from by unfold nwakesS; rw [if_pos (by omega)] <;> rfl))⟩
noncomputable def ngapR (S : PS) (y : Int) : Int := if ¬ (0 ≤ y ∧ y ≤ 299) then -1000000000001 else owM (mdS S 1 (y + 1).toNat) (S 29 0).toNat - owM (mdS (mdS S 1 (y + 1).toNat) 0 (y + 1).toNat) ((mdS S 1 (y + 1).toNat) 29 0).toNat
noncomputable def ngapS (S : PS) (y : Int) : PS := if ¬ (0 ≤ y ∧ y ≤ 299) then S else (mdS (mdS S 1 (y + 1).toNat) 0 (y + 1).toNat)
set_option maxHeartbeats 4000000 in
set_option maxRecDepth 100000 in
theorem n_gap (E : Ev) (m : Mem) (S : PS) (y : Int) (hS : InvS kM S) (hO : mOK S) (h1 : rg y) : CT E 9 mX9_gap [rf E 29 0 0, .int (iI y)] (hp E (wrM m S)) (some (.long (lI (ngapR S y)))) (hp E (wrM m (ngapS S y))) := by
  refine CT.go okX9_gap (Nat.le_of_ble_eq_true rfl) ?_
  show T E 9 mX9_gap 0 [some (rf E 29 0 0), some (.int (iI y))] [] (hp E (wrM m S)) _
  unfold rg at h1
  refine T.iload_n dX9_gap_0 rfl ?_
  refine T.cS1 (As := [.int (iI y)]) (st := []) dX9_gap_1 lk_X9_96 (n_isDay E _ (by unfold rg; omega)) (by decide) rfl rfl (Nat.le_of_ble_eq_true rfl) ?_
  refine T.ifB_eq 23 dX9_gap_4 (fun c1 => ?_) (fun c1 => ?_)
  · refine T.ldc2 dX9_gap_23 kl_X9_211 ?_
    exact T.lret dX9_gap_26 ⟨congrArg (fun z => some (Value.long (lI z))) (Eq.symm (show ngapR S y = (-1000000000001) from by unfold ngapR; rw [if_pos (by omega)] <;> first | rfl | omega)), congrArg (fun z => hp E (wrM m z)) (Eq.symm (show ngapS S y = S from by unfold ngapS; rw [if_pos (by omega)] <;> rfl))⟩
  · refine T.aload_n dX9_gap_7 rfl ?_
    refine T.iconst dX9_gap_8 ?_
    refine T.iload_n dX9_gap_9 rfl ?_
    refine T.cV1 (As := [.int (iI 1), .int (iI y)]) (st := []) dX9_gap_10 lk_X9_195 (n_owedOn E m S 1 y hS hO (by omega) (by omega)) ok29 rfl rfl (by decide) rfl rfl (Nat.le_of_ble_eq_true rfl) ?_
    have g1 := md_ok (l := 1) hS hO (y + 1).toNat (by omega)
    refine T.aload_n dX9_gap_13 rfl ?_
    refine T.iconst dX9_gap_14 ?_
    refine T.iload_n dX9_gap_15 rfl ?_
    refine T.cV1 (As := [.int (iI 0), .int (iI y)]) (st := [.long (lI (owM (mdS S 1 (y + 1).toNat) (S 29 0).toNat))]) dX9_gap_16 lk_X9_195 (n_owedOn E m (mdS S 1 (y + 1).toNat) 0 y g1.1 (hO.wf g1.2.2.2) (by omega) (by omega)) ok29 rfl rfl (by decide) rfl rfl (Nat.le_of_ble_eq_true rfl) ?_
    refine T.lsub dX9_gap_19 ?_
    refine T.goto 26 dX9_gap_20 ?_
    exact T.lret dX9_gap_26 ⟨congrArg (fun z => some (Value.long (lI z))) (Eq.symm (show ngapR S y = (owM (mdS S 1 (y + 1).toNat) (S 29 0).toNat) - (owM (mdS (mdS S 1 (y + 1).toNat) 0 (y + 1).toNat) ((mdS S 1 (y + 1).toNat) 29 0).toNat) from by unfold ngapR; rw [if_neg (by omega)] <;> first | rfl | omega)), congrArg (fun z => hp E (wrM m z)) (Eq.symm (show ngapS S y = (mdS (mdS S 1 (y + 1).toNat) 0 (y + 1).toNat) from by unfold ngapS; rw [if_neg (by omega)] <;> rfl))⟩
noncomputable def ndeadR (S : PS) (l d y : Int) : Int := if ¬ ((0 ≤ l ∧ l ≤ 1) ∧ (0 ≤ d ∧ d ≤ S 29 0 - 1) ∧ (0 ≤ y ∧ y ≤ 299)) then -1 else if dyM (rnS (mdS S l.toNat y.toNat) y) d.toNat y then 1 else 0
noncomputable def ndeadS (S : PS) (l d y : Int) : PS := if ¬ ((0 ≤ l ∧ l ≤ 1) ∧ (0 ≤ d ∧ d ≤ S 29 0 - 1) ∧ (0 ≤ y ∧ y ≤ 299)) then S else if dyM (rnS (mdS S l.toNat y.toNat) y) d.toNat y then (rnS (mdS S l.toNat y.toNat) y) else (rnS (mdS S l.toNat y.toNat) y)
set_option maxHeartbeats 4000000 in
set_option maxRecDepth 100000 in
theorem n_dead_lp (E : Ev) (m : Mem) (S : PS) (l d : Nat) (y : Int) (hS : InvS kM S) (hO : mOK S) (hl : l < 2) (hd : d < 8) (hy : 0 ≤ y ∧ y ≤ 299) : ∀ (k : Nat) (x : Nat) (D : PS), y.toNat - x = k → x ≤ y.toNat → D = mdS S l x → T E 9 mX9_dead 31 [some (rf E 29 0 0), some (.int (iI (l : Int))), some (.int (iI (d : Int))), some (.int (iI y)), some (.int (iI (x : Int)))] [] (hp E (wrM m D)) (fun r' h' => r' = some (.int (iI (if dyM (rnS (mdS S l y.toNat) y) d y then 1 else 0))) ∧ h' = hp E (wrM m (rnS (mdS S l y.toNat) y))) := by
  intro k
  induction k using Nat.strongRecOn with
  | ind k ih =>
    intro x D hk hxy hD
    have i0 := md_ok (l := l) hS hO x (by omega)
    rw [← hD] at i0
    refine T.iload dX9_dead_31 rfl ?_
    refine T.iload_n dX9_dead_33 rfl ?_
    refine T.icmp_ge 50 dX9_dead_34 (by unfold rg; omega) (by unfold rg; omega) (fun c1 => ?_) (fun c1 => ?_)
    · have hxe : (x : Int) = y := by omega
      refine T.aload_n dX9_dead_50 rfl ?_
      refine T.iload_n dX9_dead_51 rfl ?_
      refine T.cV0 (As := [.int (iI y)]) (st := []) dX9_dead_52 lk_X9_172 (n_runOn E m D y i0.1 (hO.wf i0.2.2.2) (by rw [← hxe]; exact i0.2.1) (by rw [← hxe]; exact i0.2.2.1) hy) ok29 rfl rfl (by decide) rfl rfl (Nat.le_of_ble_eq_true rfl) ?_
      refine T.aload_n dX9_dead_55 rfl ?_
      refine T.iload_n dX9_dead_56 rfl ?_
      refine T.iload_n dX9_dead_57 rfl ?_
      refine T.cV1 (As := [.int (iI (d : Int)), .int (iI y)]) (st := []) dX9_dead_58 lk_X9_157 (n_isDead E m (rnS D y) d y (rnS_cm i0.1 (hO.wf i0.2.2.2) (by rw [← hxe]; exact i0.2.1) (by rw [← hxe]; exact i0.2.2.1) hy).1 hd hy) ok29 rfl rfl (by decide) rfl rfl (Nat.le_of_ble_eq_true rfl) ?_
      refine T.ifB_eq 68 dX9_dead_61 (fun c2 => ?_) (fun c2 => ?_)
      · refine T.iconst dX9_dead_68 ?_
        rw [show mdS S l y.toNat = D from by rw [hD, show y.toNat = x from by omega]]
        exact T.iret dX9_dead_69 ⟨by rw [if_neg (by assumption)], rfl⟩
      · refine T.iconst dX9_dead_64 ?_
        refine T.goto 69 dX9_dead_65 ?_
        rw [show mdS S l y.toNat = D from by rw [hD, show y.toNat = x from by omega]]
        exact T.iret dX9_dead_69 ⟨by rw [if_pos (by assumption)], rfl⟩
    · refine T.aload_n dX9_dead_37 rfl ?_
      refine T.iload_n dX9_dead_38 rfl ?_
      refine T.iload dX9_dead_39 rfl ?_
      refine T.cV0 (As := [.int (iI (l : Int)), .int (iI (x : Int))]) (st := []) dX9_dead_41 lk_X9_183 (n_goDay E m D l (x : Int) i0.1 (hO.wf i0.2.2.2) i0.2.1 i0.2.2.1 hl (by omega)) ok29 rfl rfl (by decide) rfl rfl (Nat.le_of_ble_eq_true rfl) ?_
      refine T.iinc (ls' := [some (rf E 29 0 0), some (.int (iI (l : Int))), some (.int (iI (d : Int))), some (.int (iI y)), some (.int (iI ((x : Int) + 1)))]) dX9_dead_44 rfl rfl ?_
      refine T.goto 31 dX9_dead_47 ?_
      exact ih (y.toNat - (x + 1)) (by omega) (x + 1) _ rfl (by omega) (by rw [hD]; rfl)
set_option maxHeartbeats 4000000 in
set_option maxRecDepth 100000 in
theorem n_dead (E : Ev) (m : Mem) (S : PS) (l d y : Int) (hS : InvS kM S) (hO : mOK S) (h1 : rg l) (h2 : rg d) (h3 : rg y) : CT E 9 mX9_dead [rf E 29 0 0, .int (iI l), .int (iI d), .int (iI y)] (hp E (wrM m S)) (some (.int (iI (ndeadR S l d y)))) (hp E (wrM m (ndeadS S l d y))) := by
  refine CT.go okX9_dead (Nat.le_of_ble_eq_true rfl) ?_
  show T E 9 mX9_dead 0 [some (rf E 29 0 0), some (.int (iI l)), some (.int (iI d)), some (.int (iI y)), none] [] (hp E (wrM m S)) _
  unfold rg at h1 h2 h3
  refine T.iload_n dX9_dead_0 rfl ?_
  refine T.cS1 (As := [.int (iI l)]) (st := []) dX9_dead_1 lk_X9_129 (n_isLaw E _ (by unfold rg; omega)) (by decide) rfl rfl (Nat.le_of_ble_eq_true rfl) ?_
  refine T.ifB_eq 22 dX9_dead_4 (fun c1 => ?_) (fun c1 => ?_)
  · refine T.iconst dX9_dead_22 ?_
    exact T.iret dX9_dead_23 ⟨congrArg (fun z => some (Value.int (iI z))) (Eq.symm (show ndeadR S l d y = (-1) from by unfold ndeadR; rw [if_pos (by omega)] <;> first | rfl | omega)), congrArg (fun z => hp E (wrM m z)) (Eq.symm (show ndeadS S l d y = S from by unfold ndeadS; rw [if_pos (by omega)] <;> rfl))⟩
  · refine T.aload_n dX9_dead_7 rfl ?_
    refine T.iload_n dX9_dead_8 rfl ?_
    refine T.cV1 (As := [.int (iI d)]) (st := []) dX9_dead_9 lk_X9_102 (n_isDebt E m S hS (by unfold rg; omega)) ok29 rfl rfl (by decide) rfl rfl (Nat.le_of_ble_eq_true rfl) ?_
    have n2 : (0 ≤ S 29 0 ∧ S 29 0 ≤ 8) ∧ 0 ≤ S 29 2 ∧ S 29 2 ≤ 12 := ⟨hS 29 0 rfl, hS 29 2 rfl⟩
    refine T.ifB_eq 22 dX9_dead_12 (fun c3 => ?_) (fun c3 => ?_)
    · refine T.iconst dX9_dead_22 ?_
      exact T.iret dX9_dead_23 ⟨congrArg (fun z => some (Value.int (iI z))) (Eq.symm (show ndeadR S l d y = (-1) from by unfold ndeadR; rw [if_pos (by omega)] <;> first | rfl | omega)), congrArg (fun z => hp E (wrM m z)) (Eq.symm (show ndeadS S l d y = S from by unfold ndeadS; rw [if_pos (by omega)] <;> rfl))⟩
    · refine T.iload_n dX9_dead_15 rfl ?_
      refine T.cS1 (As := [.int (iI y)]) (st := []) dX9_dead_16 lk_X9_96 (n_isDay E _ (by unfold rg; omega)) (by decide) rfl rfl (Nat.le_of_ble_eq_true rfl) ?_
      refine T.ifB_ne 24 dX9_dead_19 (fun c4 => ?_) (fun c4 => ?_)
      · refine T.aload_n dX9_dead_24 rfl ?_
        refine T.cV0 (As := []) (st := []) dX9_dead_25 lk_X9_180 (n_begin E m S) ok29 rfl rfl (by decide) rfl rfl (Nat.le_of_ble_eq_true rfl) ?_
        refine T.iconst dX9_dead_28 ?_
        refine T.istore (ls' := [some (rf E 29 0 0), some (.int (iI l)), some (.int (iI d)), some (.int (iI y)), some (.int (iI 0))]) dX9_dead_29 rfl ?_
        rw [show ndeadR S l d y = (if dyM (rnS (mdS S l.toNat y.toNat) y) d.toNat y then 1 else 0) from by unfold ndeadR; rw [if_neg (by omega)], show ndeadS S l d y = (rnS (mdS S l.toNat y.toNat) y) from by unfold ndeadS; rw [if_neg (by omega), ite_self]]
        have h0 := n_dead_lp E m S l.toNat d.toNat y hS hO (by omega) (by omega) (by omega) _ 0 _ rfl (Nat.zero_le _) rfl
        rw [show (((l).toNat : Nat) : Int) = l from by omega] at h0
        rw [show (((d).toNat : Nat) : Int) = d from by omega] at h0
        exact h0
      · refine T.iconst dX9_dead_22 ?_
        exact T.iret dX9_dead_23 ⟨congrArg (fun z => some (Value.int (iI z))) (Eq.symm (show ndeadR S l d y = (-1) from by unfold ndeadR; rw [if_pos (by omega)] <;> first | rfl | omega)), congrArg (fun z => hp E (wrM m z)) (Eq.symm (show ndeadS S l d y = S from by unfold ndeadS; rw [if_pos (by omega)] <;> rfl))⟩
noncomputable def rkL (S : PS) (y : Int) : Nat → PS
  | 0 => S
  | d + 1 => upT (rkL S y d) 46 d (bZ (dyM S d y))
theorem rkL_k {S : PS} {y : Int} {k : Nat} (h : k ≠ 46) : ∀ n, rkL S y n k = S k
  | 0 => rfl
  | n + 1 => by
    funext x
    show upT (rkL S y n) 46 n _ k x = _
    rw [upT_k h, rkL_k h n]
theorem rkL_ok {S : PS} {y : Int} (hS : InvS kM S) : ∀ n, InvS kM (rkL S y n) ∧ WF S (rkL S y n)
  | 0 => ⟨hS, WF.rf⟩
  | n + 1 => ⟨(rkL_ok hS n).1.up (by show 0 ≤ _ ∧ _ ≤ (1 : Int); rcases bZ_01 (dyM S n y) with h | h <;> omega), (rkL_ok hS n).2.up (by decide)⟩
noncomputable def rkS (S : PS) (y : Int) : PS := rkL S y (S 29 0).toNat
theorem orM_rg {S : PS} {l : Nat} {y : Int} (hS : InvS kM S) : (orM S l y).1 ≤ 8 ∧ ∀ x, 0 ≤ (orM S l y).2 x ∧ (orM S l y).2 x ≤ 7 := by
  have q0 : 0 ≤ S 29 0 ∧ S 29 0 ≤ 8 := hS 29 0 rfl
  exact ⟨Nat.le_trans (ordL_n _) (by omega), fun x => ordL_rg (fun x => hS 47 x rfl) _ (by omega) x⟩
noncomputable def nrankR (S : PS) (l y i : Int) : Int := if ¬ ((0 ≤ l ∧ l ≤ 1) ∧ (0 ≤ y ∧ y ≤ 299) ∧ 0 ≤ i) then -1 else if i < ((orM (rkS (mdS S l.toNat (y + 1).toNat) y) l.toNat y).1 : Int) then (orM (rkS (mdS S l.toNat (y + 1).toNat) y) l.toNat y).2 i.toNat else -4
noncomputable def nrankS (S : PS) (l y i : Int) : PS := if ¬ ((0 ≤ l ∧ l ≤ 1) ∧ (0 ≤ y ∧ y ≤ 299) ∧ 0 ≤ i) then S else if i < ((orM (rkS (mdS S l.toNat (y + 1).toNat) y) l.toNat y).1 : Int) then (setT (rkS (mdS S l.toNat (y + 1).toNat) y) 47 (orM (rkS (mdS S l.toNat (y + 1).toNat) y) l.toNat y).2) else (setT (rkS (mdS S l.toNat (y + 1).toNat) y) 47 (orM (rkS (mdS S l.toNat (y + 1).toNat) y) l.toNat y).2)
set_option maxHeartbeats 4000000 in
set_option maxRecDepth 100000 in
theorem n_rank_lp (E : Ev) (m : Mem) (S : PS) (l : Nat) (y i : Int) (hS : InvS kM S) (hl : l < 2) (hy : 0 ≤ y ∧ y ≤ 299) (hi : 0 ≤ i ∧ i ≤ 2147483647) (n : Nat) (hn : S 29 0 = n) : ∀ (k : Nat) (d : Nat) (D : PS), n - d = k → d ≤ n → D = rkL S y d → T E 9 mX9_rank 29 [some (rf E 29 0 0), some (.int (iI (l : Int))), some (.int (iI y)), some (.int (iI i)), some (.int (iI (d : Int)))] [] (hp E (wrM m D)) (fun r' h' => r' = some (.int (iI (if i < ((orM (rkS S y) l y).1 : Int) then (orM (rkS S y) l y).2 i.toNat else -4))) ∧ h' = hp E (wrM m (setT (rkS S y) 47 (orM (rkS S y) l y).2))) := by
  have hn8 : 0 ≤ S 29 0 ∧ S 29 0 ≤ 8 := hS 29 0 rfl
  intro k
  induction k using Nat.strongRecOn with
  | ind k ih =>
    intro d D hk hdn hD
    have hDI : InvS kM D := by rw [hD]; exact (rkL_ok hS d).1
    have e290 : D 29 0 = S 29 0 := by rw [hD, rkL_k (by decide)]
    have hdy : dyM D d y ↔ dyM S d y := by
      show (0 < D 39 d + D 40 d ∧ 0 < D 31 (8 * d + 7) ∧ D 31 (8 * d + 7) < y - max (D 31 (8 * d + 2)) (D 41 d)) ↔ _
      rw [hD, rkL_k (by decide), rkL_k (by decide), rkL_k (by decide), rkL_k (by decide)]
    refine T.iload dX9_rank_29 rfl ?_
    refine T.aload_n dX9_rank_31 rfl ?_
    refine T.gI (z := D 29 0) dX9_rank_32 fo_X9_87 ok29 rfl rfl (wrM_c rfl) ?_
    have q1 : 0 ≤ D 29 0 ∧ D 29 0 ≤ 8 := hDI 29 0 rfl
    refine T.icmp_ge 58 dX9_rank_35 (by unfold rg; omega) (by unfold rg; omega) (fun c2 => ?_) (fun c2 => ?_)
    · have hrk : rkS S y = D := by unfold rkS; rw [hD, show (S 29 0).toNat = d from by omega]
      refine T.aload_n dX9_rank_58 rfl ?_
      refine T.iload_n dX9_rank_59 rfl ?_
      refine T.iload_n dX9_rank_60 rfl ?_
      refine T.cV1 (As := [.int (iI (l : Int)), .int (iI y)]) (st := []) dX9_rank_61 lk_X9_160 (by rw [← hrk]; exact n_order E m (rkS S y) l y ((rkL_ok hS _).1) hl hy) ok29 rfl rfl (by decide) rfl rfl (Nat.le_of_ble_eq_true rfl) ?_
      have hor := orM_rg (l := l) (y := y) (rkL_ok (y := y) hS (S 29 0).toNat).1
      have hor2 := hor.2 i.toNat
      have hor1 : (orM (rkS S y) l y).1 ≤ 8 := hor.1
      refine T.istore (ls' := [some (rf E 29 0 0), some (.int (iI (l : Int))), some (.int (iI y)), some (.int (iI i)), some (.int (iI ((orM (rkS S y) l y).1 : Int)))]) dX9_rank_64 rfl ?_
      refine T.iload_n dX9_rank_66 rfl ?_
      refine T.iload dX9_rank_67 rfl ?_
      refine T.icmp_ge 81 dX9_rank_69 (by unfold rg; omega) (by unfold rg; omega) (fun c3 => ?_) (fun c3 => ?_)
      · refine T.bipush dX9_rank_81 ?_
        exact T.iret dX9_rank_83 ⟨by rw [if_neg (by omega)], rfl⟩
      · refine T.aload_n dX9_rank_72 rfl ?_
        refine T.mget (v := rf E 47 0 0) dX9_rank_73 fo_X9_51 ok29 rfl rfl ?_
        refine T.iload_n dX9_rank_76 rfl ?_
        refine T.aI (z := (setT (rkS S y) 47 (orM (rkS S y) l y).2) 47 i.toNat) (x := i.toNat) dX9_rank_77 ok47 (fun _ => rfl) (by omega) (by omega) (wrM_c rfl) ?_
        refine T.goto 83 dX9_rank_78 ?_
        exact T.iret dX9_rank_83 ⟨by rw [if_pos (by omega), setT_k], rfl⟩
    · refine T.aload_n dX9_rank_38 rfl ?_
      refine T.mget (v := rf E 46 0 0) dX9_rank_39 fo_X9_47 ok29 rfl rfl ?_
      refine T.iload dX9_rank_42 rfl ?_
      refine T.aload_n dX9_rank_44 rfl ?_
      refine T.iload dX9_rank_45 rfl ?_
      refine T.iload_n dX9_rank_47 rfl ?_
      refine T.cV1 (As := [.int (iI (d : Int)), .int (iI y)]) (st := [.int (iI (d : Int)), rf E 46 0 0]) dX9_rank_48 lk_X9_157 (by have h0 := n_isDead E m D d y hDI (by omega) hy; rw [bZ_iff hdy] at h0; exact h0) ok29 rfl rfl (by decide) rfl rfl (Nat.le_of_ble_eq_true rfl) ?_
      refine T.nzst (x := d) dX9_rank_51 rfl ok46 (fun _ => rfl) rfl (by omega) (bZ_01 _) ?_
      refine T.iinc (ls' := [some (rf E 29 0 0), some (.int (iI (l : Int))), some (.int (iI y)), some (.int (iI i)), some (.int (iI ((d : Int) + 1)))]) dX9_rank_52 rfl rfl ?_
      refine T.goto 29 dX9_rank_55 ?_
      exact ih (n - (d + 1)) (by omega) (d + 1) _ rfl (by omega) (by rw [hD]; rfl)
set_option maxHeartbeats 4000000 in
set_option maxRecDepth 100000 in
theorem n_rank (E : Ev) (m : Mem) (S : PS) (l y i : Int) (hS : InvS kM S) (hO : mOK S) (h1 : rg l) (h2 : rg y) (h3 : rg i) : CT E 9 mX9_rank [rf E 29 0 0, .int (iI l), .int (iI y), .int (iI i)] (hp E (wrM m S)) (some (.int (iI (nrankR S l y i)))) (hp E (wrM m (nrankS S l y i))) := by
  refine CT.go okX9_rank (Nat.le_of_ble_eq_true rfl) ?_
  show T E 9 mX9_rank 0 [some (rf E 29 0 0), some (.int (iI l)), some (.int (iI y)), some (.int (iI i)), none] [] (hp E (wrM m S)) _
  unfold rg at h1 h2 h3
  refine T.iload_n dX9_rank_0 rfl ?_
  refine T.cS1 (As := [.int (iI l)]) (st := []) dX9_rank_1 lk_X9_129 (n_isLaw E _ (by unfold rg; omega)) (by decide) rfl rfl (Nat.le_of_ble_eq_true rfl) ?_
  refine T.ifB_eq 18 dX9_rank_4 (fun c1 => ?_) (fun c1 => ?_)
  · refine T.iconst dX9_rank_18 ?_
    exact T.iret dX9_rank_19 ⟨congrArg (fun z => some (Value.int (iI z))) (Eq.symm (show nrankR S l y i = (-1) from by unfold nrankR; rw [if_pos (by omega)] <;> first | rfl | omega)), congrArg (fun z => hp E (wrM m z)) (Eq.symm (show nrankS S l y i = S from by unfold nrankS; rw [if_pos (by omega)] <;> rfl))⟩
  · refine T.iload_n dX9_rank_7 rfl ?_
    refine T.cS1 (As := [.int (iI y)]) (st := []) dX9_rank_8 lk_X9_96 (n_isDay E _ (by unfold rg; omega)) (by decide) rfl rfl (Nat.le_of_ble_eq_true rfl) ?_
    refine T.ifB_eq 18 dX9_rank_11 (fun c2 => ?_) (fun c2 => ?_)
    · refine T.iconst dX9_rank_18 ?_
      exact T.iret dX9_rank_19 ⟨congrArg (fun z => some (Value.int (iI z))) (Eq.symm (show nrankR S l y i = (-1) from by unfold nrankR; rw [if_pos (by omega)] <;> first | rfl | omega)), congrArg (fun z => hp E (wrM m z)) (Eq.symm (show nrankS S l y i = S from by unfold nrankS; rw [if_pos (by omega)] <;> rfl))⟩
    · refine T.iload_n dX9_rank_14 rfl ?_
      refine T.if_ge 20 dX9_rank_15 (by unfold rg; omega) (fun c3 => ?_) (fun c3 => ?_)
      · refine T.aload_n dX9_rank_20 rfl ?_
        refine T.iload_n dX9_rank_21 rfl ?_
        refine T.iload_n dX9_rank_22 rfl ?_
        refine T.cV0 (As := [.int (iI l), .int (iI y)]) (st := []) dX9_rank_23 lk_X9_186 (by have h0 := n_goTo E m S (l).toNat y hS hO (by omega) (by omega); rw [show (((l).toNat : Nat) : Int) = l from by omega] at h0; exact h0) ok29 rfl rfl (by decide) rfl rfl (Nat.le_of_ble_eq_true rfl) ?_
        refine T.iconst dX9_rank_26 ?_
        refine T.istore (ls' := [some (rf E 29 0 0), some (.int (iI l)), some (.int (iI y)), some (.int (iI i)), some (.int (iI 0))]) dX9_rank_27 rfl ?_
        have g1 := md_ok (l := l.toNat) hS hO (y + 1).toNat (by omega)
        have q0 : 0 ≤ (mdS S l.toNat (y + 1).toNat) 29 0 ∧ (mdS S l.toNat (y + 1).toNat) 29 0 ≤ 8 := g1.1 29 0 rfl
        rw [show nrankR S l y i = (if i < ((orM (rkS (mdS S l.toNat (y + 1).toNat) y) l.toNat y).1 : Int) then (orM (rkS (mdS S l.toNat (y + 1).toNat) y) l.toNat y).2 i.toNat else -4) from by unfold nrankR; rw [if_neg (by omega)], show nrankS S l y i = (setT (rkS (mdS S l.toNat (y + 1).toNat) y) 47 (orM (rkS (mdS S l.toNat (y + 1).toNat) y) l.toNat y).2) from by unfold nrankS; rw [if_neg (by omega), ite_self]]
        have h0 := n_rank_lp E m (mdS S l.toNat (y + 1).toNat) l.toNat y i g1.1 (by omega) (by omega) (by omega) _ (Int.toNat_of_nonneg q0.1).symm _ 0 _ rfl (Nat.zero_le _) rfl
        rw [show (((l).toNat : Nat) : Int) = l from by omega] at h0
        exact h0
      · refine T.iconst dX9_rank_18 ?_
        exact T.iret dX9_rank_19 ⟨congrArg (fun z => some (Value.int (iI z))) (Eq.symm (show nrankR S l y i = (-1) from by unfold nrankR; rw [if_pos (by omega)] <;> first | rfl | omega)), congrArg (fun z => hp E (wrM m z)) (Eq.symm (show nrankS S l y i = S from by unfold nrankS; rw [if_pos (by omega)] <;> rfl))⟩
noncomputable def nputR (S : PS) (l p d t : Int) : Int := if ¬ ((0 ≤ l ∧ l ≤ 1) ∧ (0 ≤ p ∧ p ≤ S 29 2 - 1) ∧ (-1 ≤ d ∧ d ≤ S 29 0 - 1) ∧ (0 ≤ t ∧ t ≤ 1)) then -1 else if d < 0 then (gdL l.toNat (S 33 (4 * p).toNat) (rnS (mdS S l.toNat (S 33 (4 * p).toNat).toNat) (S 33 (4 * p).toNat)) (p + 1).toNat) 29 15 else if t = 0 then (gdL l.toNat (S 33 (4 * p).toNat) (rnS (mdS S l.toNat (S 33 (4 * p).toNat).toNat) (S 33 (4 * p).toNat)) (p + 1).toNat) 43 d.toNat else (gdL l.toNat (S 33 (4 * p).toNat) (rnS (mdS S l.toNat (S 33 (4 * p).toNat).toNat) (S 33 (4 * p).toNat)) (p + 1).toNat) 44 d.toNat
noncomputable def nputS (S : PS) (l p d t : Int) : PS := if ¬ ((0 ≤ l ∧ l ≤ 1) ∧ (0 ≤ p ∧ p ≤ S 29 2 - 1) ∧ (-1 ≤ d ∧ d ≤ S 29 0 - 1) ∧ (0 ≤ t ∧ t ≤ 1)) then S else if d < 0 then (gdL l.toNat (S 33 (4 * p).toNat) (rnS (mdS S l.toNat (S 33 (4 * p).toNat).toNat) (S 33 (4 * p).toNat)) (p + 1).toNat) else if t = 0 then (gdL l.toNat (S 33 (4 * p).toNat) (rnS (mdS S l.toNat (S 33 (4 * p).toNat).toNat) (S 33 (4 * p).toNat)) (p + 1).toNat) else (gdL l.toNat (S 33 (4 * p).toNat) (rnS (mdS S l.toNat (S 33 (4 * p).toNat).toNat) (S 33 (4 * p).toNat)) (p + 1).toNat)
set_option maxHeartbeats 4000000 in
set_option maxRecDepth 100000 in
theorem n_put_b (E : Ev) (m : Mem) (S : PS) (l : Nat) (p d t y : Int) (hS : InvS kM S) (hO : mOK S) (hl : l < 2) (hpp : 0 ≤ p ∧ p ≤ S 29 2 - 1) (hd : -1 ≤ d ∧ d ≤ S 29 0 - 1) (ht : 0 ≤ t ∧ t ≤ 1) (hy : 0 ≤ y ∧ y ≤ 299) : ∀ (k : Nat) (x : Nat) (D : PS), (p + 1).toNat - x = k → x ≤ (p + 1).toNat → D = gdL l y S x → T E 9 mX9_put 94 [some (rf E 29 0 0), some (.int (iI (l : Int))), some (.int (iI p)), some (.int (iI d)), some (.int (iI t)), some (.int (iI y)), some (.int (iI (x : Int)))] [] (hp E (wrM m D)) (fun r' h' => r' = some (.long (lI (if d < 0 then (gdL l y S (p + 1).toNat) 29 15 else if t = 0 then (gdL l y S (p + 1).toNat) 43 d.toNat else (gdL l y S (p + 1).toNat) 44 d.toNat))) ∧ h' = hp E (wrM m (gdL l y S (p + 1).toNat))) := by
  have hn8 : (0 ≤ S 29 0 ∧ S 29 0 ≤ 8) ∧ 0 ≤ S 29 2 ∧ S 29 2 ≤ 12 := ⟨hS 29 0 rfl, hS 29 2 rfl⟩
  intro k
  induction k using Nat.strongRecOn with
  | ind k ih =>
    intro x D hk hxy hD
    have i0 := gdL_ok (l := l) hS hO hy x (by omega)
    rw [← hD] at i0
    have hDI := i0.1
    refine T.iload dX9_put_94 rfl ?_
    refine T.iload_n dX9_put_96 rfl ?_
    refine T.icmp_gt 129 dX9_put_97 (by unfold rg; omega) (by unfold rg; omega) (fun c1 => ?_) (fun c1 => ?_)
    · refine T.iload_n dX9_put_129 rfl ?_
      refine T.if_ge 140 dX9_put_130 (by unfold rg; omega) (fun c2 => ?_) (fun c2 => ?_)
      · refine T.iload dX9_put_140 rfl ?_
        refine T.if_ne 154 dX9_put_142 (by unfold rg; omega) (fun c3 => ?_) (fun c3 => ?_)
        · refine T.aload_n dX9_put_154 rfl ?_
          refine T.mget (v := rf E 44 0 0) dX9_put_155 fo_X9_44 ok29 rfl rfl ?_
          refine T.iload_n dX9_put_158 rfl ?_
          refine T.aL (z := D 44 d.toNat) (x := d.toNat) dX9_put_159 ok44 (fun _ => rfl) (by omega) (by omega) (wrM_c rfl) ?_
          rw [show gdL l y S (p + 1).toNat = D from by rw [hD, show (p + 1).toNat = x from by omega]]
          exact T.lret dX9_put_160 ⟨by rw [if_neg (by omega), if_neg (by omega)], rfl⟩
        · refine T.aload_n dX9_put_145 rfl ?_
          refine T.mget (v := rf E 43 0 0) dX9_put_146 fo_X9_41 ok29 rfl rfl ?_
          refine T.iload_n dX9_put_149 rfl ?_
          refine T.aL (z := D 43 d.toNat) (x := d.toNat) dX9_put_150 ok43 (fun _ => rfl) (by omega) (by omega) (wrM_c rfl) ?_
          refine T.goto 160 dX9_put_151 ?_
          rw [show gdL l y S (p + 1).toNat = D from by rw [hD, show (p + 1).toNat = x from by omega]]
          exact T.lret dX9_put_160 ⟨by rw [if_neg (by omega), if_pos (by omega)], rfl⟩
      · refine T.aload_n dX9_put_133 rfl ?_
        refine T.gL (z := D 29 15) dX9_put_134 fo_X9_149 ok29 rfl rfl (wrM_c rfl) ?_
        refine T.goto 160 dX9_put_137 ?_
        rw [show gdL l y S (p + 1).toNat = D from by rw [hD, show (p + 1).toNat = x from by omega]]
        exact T.lret dX9_put_160 ⟨by rw [if_pos (by omega)], rfl⟩
    · refine T.aload_n dX9_put_100 rfl ?_
      refine T.mget (v := rf E 33 0 0) dX9_put_101 fo_X9_13 ok29 rfl rfl ?_
      refine T.iconst dX9_put_104 ?_
      refine T.iload dX9_put_105 rfl ?_
      refine T.imul dX9_put_107 ?_
      refine T.aI (z := D 33 (4 * x)) (x := 4 * x) dX9_put_108 ok33 (fun _ => rfl) (by omega) (by omega) (wrM_c rfl) ?_
      have q4 : -1 ≤ D 33 (4 * x) ∧ D 33 (4 * x) ≤ 9999 := hDI 33 (4 * x) rfl
      refine T.iload dX9_put_109 rfl ?_
      refine T.icmp_ne 123 dX9_put_111 (by unfold rg; omega) (by unfold rg; omega) (fun c5 => ?_) (fun c5 => ?_)
      · refine T.iinc (ls' := [some (rf E 29 0 0), some (.int (iI (l : Int))), some (.int (iI p)), some (.int (iI d)), some (.int (iI t)), some (.int (iI y)), some (.int (iI ((x : Int) + 1)))]) dX9_put_123 rfl rfl ?_
        refine T.goto 94 dX9_put_126 ?_
        refine ih ((p + 1).toNat - (x + 1)) (by omega) (x + 1) _ rfl (by omega) ?_
        rw [show gdL l y S (x + 1) = (if gdL l y S x 33 (4 * x) = y then ppy (gdL l y S x) l x y else gdL l y S x) from rfl, ← hD, if_neg (by omega)]
      · refine T.aload_n dX9_put_114 rfl ?_
        refine T.iload_n dX9_put_115 rfl ?_
        refine T.iload dX9_put_116 rfl ?_
        refine T.iload dX9_put_118 rfl ?_
        refine T.cV0 (As := [.int (iI (l : Int)), .int (iI (x : Int)), .int (iI y)]) (st := []) dX9_put_120 lk_X9_176 (n_putPay E m D l x y hDI (hO.wf i0.2.1) hl hy (by rw [i0.2.1.2 2 (by decide)]; omega)) ok29 rfl rfl (by decide) rfl rfl (Nat.le_of_ble_eq_true rfl) ?_
        refine T.iinc (ls' := [some (rf E 29 0 0), some (.int (iI (l : Int))), some (.int (iI p)), some (.int (iI d)), some (.int (iI t)), some (.int (iI y)), some (.int (iI ((x : Int) + 1)))]) dX9_put_123 rfl rfl ?_
        refine T.goto 94 dX9_put_126 ?_
        refine ih ((p + 1).toNat - (x + 1)) (by omega) (x + 1) _ rfl (by omega) ?_
        rw [show gdL l y S (x + 1) = (if gdL l y S x 33 (4 * x) = y then ppy (gdL l y S x) l x y else gdL l y S x) from rfl, ← hD, if_pos (by omega)]
set_option maxHeartbeats 4000000 in
set_option maxRecDepth 100000 in
theorem n_put_a (E : Ev) (m : Mem) (S : PS) (l : Nat) (p d t y : Int) (hS : InvS kM S) (hO : mOK S) (hl : l < 2) (hpp : 0 ≤ p ∧ p ≤ S 29 2 - 1) (hd : -1 ≤ d ∧ d ≤ S 29 0 - 1) (ht : 0 ≤ t ∧ t ≤ 1) (hy : 0 ≤ y ∧ y ≤ 299) : ∀ (k : Nat) (x : Nat) (D : PS), y.toNat - x = k → x ≤ y.toNat → D = mdS S l x → T E 9 mX9_put 65 [some (rf E 29 0 0), some (.int (iI (l : Int))), some (.int (iI p)), some (.int (iI d)), some (.int (iI t)), some (.int (iI y)), some (.int (iI (x : Int)))] [] (hp E (wrM m D)) (fun r' h' => r' = some (.long (lI (if d < 0 then (gdL l y (rnS (mdS S l y.toNat) y) (p + 1).toNat) 29 15 else if t = 0 then (gdL l y (rnS (mdS S l y.toNat) y) (p + 1).toNat) 43 d.toNat else (gdL l y (rnS (mdS S l y.toNat) y) (p + 1).toNat) 44 d.toNat))) ∧ h' = hp E (wrM m (gdL l y (rnS (mdS S l y.toNat) y) (p + 1).toNat))) := by
  intro k
  induction k using Nat.strongRecOn with
  | ind k ih =>
    intro x D hk hxy hD
    have i0 := md_ok (l := l) hS hO x (by omega)
    rw [← hD] at i0
    refine T.iload dX9_put_65 rfl ?_
    refine T.iload dX9_put_67 rfl ?_
    refine T.icmp_ge 85 dX9_put_69 (by unfold rg; omega) (by unfold rg; omega) (fun c1 => ?_) (fun c1 => ?_)
    · have hxe : (x : Int) = y := by omega
      refine T.aload_n dX9_put_85 rfl ?_
      refine T.iload dX9_put_86 rfl ?_
      refine T.cV0 (As := [.int (iI y)]) (st := []) dX9_put_88 lk_X9_172 (n_runOn E m D y i0.1 (hO.wf i0.2.2.2) (by rw [← hxe]; exact i0.2.1) (by rw [← hxe]; exact i0.2.2.1) hy) ok29 rfl rfl (by decide) rfl rfl (Nat.le_of_ble_eq_true rfl) ?_
      refine T.iconst dX9_put_91 ?_
      refine T.istore (ls' := [some (rf E 29 0 0), some (.int (iI (l : Int))), some (.int (iI p)), some (.int (iI d)), some (.int (iI t)), some (.int (iI y)), some (.int (iI 0))]) dX9_put_92 rfl ?_
      have r0 := rnS_cm i0.1 (hO.wf i0.2.2.2) (by rw [← hxe]; exact i0.2.1) (by rw [← hxe]; exact i0.2.2.1) hy
      rw [show mdS S l y.toNat = D from by rw [hD, show y.toNat = x from by omega]]
      have e0 : rnS D y 29 0 = S 29 0 := (i0.2.2.2.tr rnS_wf).2 0 (by decide)
      have e2 : rnS D y 29 2 = S 29 2 := (i0.2.2.2.tr rnS_wf).2 2 (by decide)
      exact n_put_b E m (rnS D y) l p d t y r0.1 ((hO.wf i0.2.2.2).wf rnS_wf) hl (by rw [e2]; exact hpp) (by rw [e0]; exact hd) ht hy _ 0 _ rfl (Nat.zero_le _) rfl
    · refine T.aload_n dX9_put_72 rfl ?_
      refine T.iload_n dX9_put_73 rfl ?_
      refine T.iload dX9_put_74 rfl ?_
      refine T.cV0 (As := [.int (iI (l : Int)), .int (iI (x : Int))]) (st := []) dX9_put_76 lk_X9_183 (n_goDay E m D l (x : Int) i0.1 (hO.wf i0.2.2.2) i0.2.1 i0.2.2.1 hl (by omega)) ok29 rfl rfl (by decide) rfl rfl (Nat.le_of_ble_eq_true rfl) ?_
      refine T.iinc (ls' := [some (rf E 29 0 0), some (.int (iI (l : Int))), some (.int (iI p)), some (.int (iI d)), some (.int (iI t)), some (.int (iI y)), some (.int (iI ((x : Int) + 1)))]) dX9_put_79 rfl rfl ?_
      refine T.goto 65 dX9_put_82 ?_
      exact ih (y.toNat - (x + 1)) (by omega) (x + 1) _ rfl (by omega) (by rw [hD]; rfl)
set_option maxHeartbeats 4000000 in
set_option maxRecDepth 100000 in
theorem n_put (E : Ev) (m : Mem) (S : PS) (l p d t : Int) (hS : InvS kM S) (hO : mOK S) (h1 : rg l) (h2 : rg p) (h3 : rg d) (h4 : rg t) : CT E 9 mX9_put [rf E 29 0 0, .int (iI l), .int (iI p), .int (iI d), .int (iI t)] (hp E (wrM m S)) (some (.long (lI (nputR S l p d t)))) (hp E (wrM m (nputS S l p d t))) := by
  refine CT.go okX9_put (Nat.le_of_ble_eq_true rfl) ?_
  show T E 9 mX9_put 0 [some (rf E 29 0 0), some (.int (iI l)), some (.int (iI p)), some (.int (iI d)), some (.int (iI t)), none, none] [] (hp E (wrM m S)) _
  unfold rg at h1 h2 h3 h4
  refine T.iload_n dX9_put_0 rfl ?_
  refine T.cS1 (As := [.int (iI l)]) (st := []) dX9_put_1 lk_X9_129 (n_isLaw E _ (by unfold rg; omega)) (by decide) rfl rfl (Nat.le_of_ble_eq_true rfl) ?_
  refine T.ifB_eq 44 dX9_put_4 (fun c1 => ?_) (fun c1 => ?_)
  · refine T.ldc2 dX9_put_44 kl_X9_107 ?_
    exact T.lret dX9_put_47 ⟨congrArg (fun z => some (Value.long (lI z))) (Eq.symm (show nputR S l p d t = (-1) from by unfold nputR; rw [if_pos (by omega)] <;> first | rfl | omega)), congrArg (fun z => hp E (wrM m z)) (Eq.symm (show nputS S l p d t = S from by unfold nputS; rw [if_pos (by omega)] <;> rfl))⟩
  · refine T.aload_n dX9_put_7 rfl ?_
    refine T.iload_n dX9_put_8 rfl ?_
    refine T.cV1 (As := [.int (iI p)]) (st := []) dX9_put_9 lk_X9_113 (n_isPayment E m S hS (by unfold rg; omega)) ok29 rfl rfl (by decide) rfl rfl (Nat.le_of_ble_eq_true rfl) ?_
    have n2 : (0 ≤ S 29 0 ∧ S 29 0 ≤ 8) ∧ 0 ≤ S 29 2 ∧ S 29 2 ≤ 12 := ⟨hS 29 0 rfl, hS 29 2 rfl⟩
    refine T.ifB_eq 44 dX9_put_12 (fun c3 => ?_) (fun c3 => ?_)
    · refine T.ldc2 dX9_put_44 kl_X9_107 ?_
      exact T.lret dX9_put_47 ⟨congrArg (fun z => some (Value.long (lI z))) (Eq.symm (show nputR S l p d t = (-1) from by unfold nputR; rw [if_pos (by omega)] <;> first | rfl | omega)), congrArg (fun z => hp E (wrM m z)) (Eq.symm (show nputS S l p d t = S from by unfold nputS; rw [if_pos (by omega)] <;> rfl))⟩
    · refine T.iload_n dX9_put_15 rfl ?_
      refine T.i2l dX9_put_16 (by unfold rg; omega) ?_
      refine T.ldc2 dX9_put_17 kl_X9_107 ?_
      refine T.aload_n dX9_put_20 rfl ?_
      refine T.gI (z := S 29 0) dX9_put_21 fo_X9_87 ok29 rfl rfl (wrM_c rfl) ?_
      have q4 : 0 ≤ S 29 0 ∧ S 29 0 ≤ 8 := hS 29 0 rfl
      refine T.iconst dX9_put_24 ?_
      refine T.isub dX9_put_25 ?_
      refine T.i2l dX9_put_26 (by unfold rg; omega) ?_
      refine T.cS1 (As := [.long (lI d), .long (lI (-1)), .long (lI ((S 29 0) - 1))]) (st := []) dX9_put_27 lk_X9_83 (n_in E _ (by unfold rl; omega) (by unfold rl; omega) (by unfold rl; omega)) (by decide) rfl rfl (Nat.le_of_ble_eq_true rfl) ?_
      refine T.ifB_eq 44 dX9_put_30 (fun c5 => ?_) (fun c5 => ?_)
      · refine T.ldc2 dX9_put_44 kl_X9_107 ?_
        exact T.lret dX9_put_47 ⟨congrArg (fun z => some (Value.long (lI z))) (Eq.symm (show nputR S l p d t = (-1) from by unfold nputR; rw [if_pos (by omega)] <;> first | rfl | omega)), congrArg (fun z => hp E (wrM m z)) (Eq.symm (show nputS S l p d t = S from by unfold nputS; rw [if_pos (by omega)] <;> rfl))⟩
      · refine T.iload dX9_put_33 rfl ?_
        refine T.i2l dX9_put_35 (by unfold rg; omega) ?_
        refine T.lconst0 dX9_put_36 ?_
        refine T.lconst1 dX9_put_37 ?_
        refine T.cS1 (As := [.long (lI t), .long (lI 0), .long (lI 1)]) (st := []) dX9_put_38 lk_X9_83 (n_in E _ (by unfold rl; omega) (by unfold rl; omega) (by unfold rl; omega)) (by decide) rfl rfl (Nat.le_of_ble_eq_true rfl) ?_
        refine T.ifB_ne 48 dX9_put_41 (fun c6 => ?_) (fun c6 => ?_)
        · refine T.aload_n dX9_put_48 rfl ?_
          refine T.mget (v := rf E 33 0 0) dX9_put_49 fo_X9_13 ok29 rfl rfl ?_
          refine T.iconst dX9_put_52 ?_
          refine T.iload_n dX9_put_53 rfl ?_
          refine T.imul dX9_put_54 ?_
          refine T.aI (z := S 33 ((4 * p).toNat)) (x := (4 * p).toNat) dX9_put_55 ok33 (fun _ => rfl) (by omega) (by omega) (wrM_c rfl) ?_
          have q7 : -1 ≤ S 33 ((4 * p).toNat) ∧ S 33 ((4 * p).toNat) ≤ 9999 := hS 33 ((4 * p).toNat) rfl
          refine T.istore (ls' := [some (rf E 29 0 0), some (.int (iI l)), some (.int (iI p)), some (.int (iI d)), some (.int (iI t)), some (.int (iI (S 33 ((4 * p).toNat)))), none]) dX9_put_56 rfl ?_
          refine T.aload_n dX9_put_58 rfl ?_
          refine T.cV0 (As := []) (st := []) dX9_put_59 lk_X9_180 (n_begin E m S) ok29 rfl rfl (by decide) rfl rfl (Nat.le_of_ble_eq_true rfl) ?_
          refine T.iconst dX9_put_62 ?_
          refine T.istore (ls' := [some (rf E 29 0 0), some (.int (iI l)), some (.int (iI p)), some (.int (iI d)), some (.int (iI t)), some (.int (iI (S 33 ((4 * p).toNat)))), some (.int (iI 0))]) dX9_put_63 rfl ?_
          have q5 := hO.2 p.toNat (by omega)
          rw [show 4 * p.toNat = (4 * p).toNat from by omega] at q5
          rw [show nputR S l p d t = (if d < 0 then (gdL l.toNat (S 33 (4 * p).toNat) (rnS (mdS S l.toNat (S 33 (4 * p).toNat).toNat) (S 33 (4 * p).toNat)) (p + 1).toNat) 29 15 else if t = 0 then (gdL l.toNat (S 33 (4 * p).toNat) (rnS (mdS S l.toNat (S 33 (4 * p).toNat).toNat) (S 33 (4 * p).toNat)) (p + 1).toNat) 43 d.toNat else (gdL l.toNat (S 33 (4 * p).toNat) (rnS (mdS S l.toNat (S 33 (4 * p).toNat).toNat) (S 33 (4 * p).toNat)) (p + 1).toNat) 44 d.toNat) from by unfold nputR; rw [if_neg (by omega)], show nputS S l p d t = (gdL l.toNat (S 33 (4 * p).toNat) (rnS (mdS S l.toNat (S 33 (4 * p).toNat).toNat) (S 33 (4 * p).toNat)) (p + 1).toNat) from by unfold nputS; rw [if_neg (by omega), ite_self, ite_self]]
          have h0 := n_put_a E m S l.toNat p d t (S 33 (4 * p).toNat) hS hO (by omega) (by omega) (by omega) (by omega) (by omega) _ 0 _ rfl (Nat.zero_le _) rfl
          rw [show (((l).toNat : Nat) : Int) = l from by omega] at h0
          exact h0
        · refine T.ldc2 dX9_put_44 kl_X9_107 ?_
          exact T.lret dX9_put_47 ⟨congrArg (fun z => some (Value.long (lI z))) (Eq.symm (show nputR S l p d t = (-1) from by unfold nputR; rw [if_pos (by omega)] <;> first | rfl | omega)), congrArg (fun z => hp E (wrM m z)) (Eq.symm (show nputS S l p d t = S from by unfold nputS; rw [if_pos (by omega)] <;> rfl))⟩
noncomputable def pdF (l d : Nat) : Nat → Nat → PS → Int × PS
  | 0, _, D => (-4, D)
  | f + 1, x, D => if gdS D l x 31 (8 * d + 1) ≤ x ∧ gdS D l x 39 d + gdS D l x 40 d = 0 then (x, gdS D l x) else pdF l d f (x + 1) (gdS D l x)
noncomputable def npaidR (S : PS) (N : Nat) (l d : Int) : Int := if ¬ ((0 ≤ l ∧ l ≤ 1) ∧ (0 ≤ d ∧ d ≤ S 29 0 - 1)) then -1 else (pdF l.toNat d.toNat N 0 (begS S)).1
noncomputable def npaidS (S : PS) (N : Nat) (l d : Int) : PS := if ¬ ((0 ≤ l ∧ l ≤ 1) ∧ (0 ≤ d ∧ d ≤ S 29 0 - 1)) then S else (pdF l.toNat d.toNat N 0 (begS S)).2
set_option maxHeartbeats 4000000 in
set_option maxRecDepth 100000 in
theorem n_paid_lp (E : Ev) (m : Mem) (S : PS) (l d : Nat) (hS : InvS kM S) (hO : mOK S) (hl : l < 2) (hd : d < 8) (N : Nat) (hN : N = 300) : ∀ (k : Nat) (x : Nat) (D : PS), N - x = k → x ≤ N → D = mdS S l x → T E 9 mX9_paid 23 [some (rf E 29 0 0), some (.int (iI (l : Int))), some (.int (iI (d : Int))), some (.int (iI (x : Int)))] [] (hp E (wrM m D)) (fun r' h' => r' = some (.int (iI (pdF l d (N - x) x D).1)) ∧ h' = hp E (wrM m (pdF l d (N - x) x D).2)) := by
  intro k
  induction k using Nat.strongRecOn with
  | ind k ih =>
    intro x D hk hxy hD
    have i0 := md_ok (l := l) hS hO x (by omega)
    rw [← hD] at i0
    refine T.iload_n dX9_paid_23 rfl ?_
    refine T.sipush dX9_paid_24 ?_
    refine T.icmp_gt 69 dX9_paid_27 (by unfold rg; omega) (by unfold rg; omega) (fun c1 => ?_) (fun c1 => ?_)
    · refine T.bipush dX9_paid_69 ?_
      rw [show N - x = 0 from by omega]
      exact T.iret dX9_paid_71 ⟨rfl, rfl⟩
    · refine T.aload_n dX9_paid_30 rfl ?_
      refine T.iload_n dX9_paid_31 rfl ?_
      refine T.iload_n dX9_paid_32 rfl ?_
      refine T.cV0 (As := [.int (iI (l : Int)), .int (iI (x : Int))]) (st := []) dX9_paid_33 lk_X9_183 (n_goDay E m D l (x : Int) i0.1 (hO.wf i0.2.2.2) i0.2.1 i0.2.2.1 hl (by omega)) ok29 rfl rfl (by decide) rfl rfl (Nat.le_of_ble_eq_true rfl) ?_
      have g1 := gdS_ok (l := l) i0.1 (hO.wf i0.2.2.2) i0.2.1 i0.2.2.1 (show 0 ≤ (x : Int) ∧ (x : Int) ≤ 299 by omega)
      have b1 : 0 ≤ gdS D l (x : Int) 39 d ∧ gdS D l (x : Int) 39 d ≤ 99990000 := g1.1 39 d rfl
      have b2 : 0 ≤ gdS D l (x : Int) 40 d ∧ gdS D l (x : Int) 40 d ≤ 4000000000 := g1.1 40 d rfl
      refine T.iload_n dX9_paid_36 rfl ?_
      refine T.aload_n dX9_paid_37 rfl ?_
      refine T.mget (v := rf E 31 0 0) dX9_paid_38 fo_X9_7 ok29 rfl rfl ?_
      refine T.bipush dX9_paid_41 ?_
      refine T.iload_n dX9_paid_43 rfl ?_
      refine T.imul dX9_paid_44 ?_
      refine T.iconst dX9_paid_45 ?_
      refine T.iadd dX9_paid_46 ?_
      refine T.aI (z := (gdS D l (x : Int)) 31 ((8 * d) + 1)) (x := (8 * d) + 1) dX9_paid_47 ok31 (fun _ => rfl) (by omega) (by omega) (wrM_c rfl) ?_
      have q2 : -1 ≤ (gdS D l (x : Int)) 31 ((8 * d) + 1) ∧ (gdS D l (x : Int)) 31 ((8 * d) + 1) ≤ 9999 := g1.1 31 ((8 * d) + 1) rfl
      refine T.icmp_lt 63 dX9_paid_48 (by unfold rg; omega) (by unfold rg; omega) (fun c3 => ?_) (fun c3 => ?_)
      · refine T.iinc (ls' := [some (rf E 29 0 0), some (.int (iI (l : Int))), some (.int (iI (d : Int))), some (.int (iI ((x : Int) + 1)))]) dX9_paid_63 rfl rfl ?_
        refine T.goto 23 dX9_paid_66 ?_
        rw [show pdF l d (N - x) x D = pdF l d (N - (x + 1)) (x + 1) (gdS D l x) from by rw [show N - x = (N - (x + 1)) + 1 from by omega]; exact if_neg (fun z => by obtain ⟨z1, z2⟩ := z; omega)]
        exact ih (N - (x + 1)) (by omega) (x + 1) _ rfl (by omega) (by rw [hD]; rfl)
      · refine T.aload_n dX9_paid_51 rfl ?_
        refine T.iload_n dX9_paid_52 rfl ?_
        refine T.cV1 (As := [.int (iI (d : Int))]) (st := []) dX9_paid_53 lk_X9_137 (n_leftOf E m (gdS D l (x : Int)) d (by omega)) ok29 rfl rfl (by decide) rfl rfl (Nat.le_of_ble_eq_true rfl) ?_
        refine T.lconst0 dX9_paid_56 ?_
        refine T.lcmp_ne 63 dX9_paid_57 dX9_paid_58 (by unfold rl; omega) (by unfold rl; omega) (fun c4 => ?_) (fun c4 => ?_)
        · refine T.iinc (ls' := [some (rf E 29 0 0), some (.int (iI (l : Int))), some (.int (iI (d : Int))), some (.int (iI ((x : Int) + 1)))]) dX9_paid_63 rfl rfl ?_
          refine T.goto 23 dX9_paid_66 ?_
          rw [show pdF l d (N - x) x D = pdF l d (N - (x + 1)) (x + 1) (gdS D l x) from by rw [show N - x = (N - (x + 1)) + 1 from by omega]; exact if_neg (fun z => by obtain ⟨z1, z2⟩ := z; omega)]
          exact ih (N - (x + 1)) (by omega) (x + 1) _ rfl (by omega) (by rw [hD]; rfl)
        · refine T.iload_n dX9_paid_61 rfl ?_
          rw [show pdF l d (N - x) x D = ((x : Int), gdS D l x) from by rw [show N - x = (N - (x + 1)) + 1 from by omega]; exact if_pos ⟨by omega, by omega⟩]
          exact T.iret dX9_paid_62 ⟨rfl, rfl⟩
set_option maxHeartbeats 4000000 in
set_option maxRecDepth 100000 in
theorem n_paid (E : Ev) (m : Mem) (S : PS) (N : Nat) (l d : Int) (hS : InvS kM S) (hN : N = 300) (hO : mOK S) (h1 : rg l) (h2 : rg d) : CT E 9 mX9_paid [rf E 29 0 0, .int (iI l), .int (iI d)] (hp E (wrM m S)) (some (.int (iI (npaidR S N l d)))) (hp E (wrM m (npaidS S N l d))) := by
  refine CT.go okX9_paid (Nat.le_of_ble_eq_true rfl) ?_
  show T E 9 mX9_paid 0 [some (rf E 29 0 0), some (.int (iI l)), some (.int (iI d)), none] [] (hp E (wrM m S)) _
  unfold rg at h1 h2
  refine T.iload_n dX9_paid_0 rfl ?_
  refine T.cS1 (As := [.int (iI l)]) (st := []) dX9_paid_1 lk_X9_129 (n_isLaw E _ (by unfold rg; omega)) (by decide) rfl rfl (Nat.le_of_ble_eq_true rfl) ?_
  refine T.ifB_eq 15 dX9_paid_4 (fun c1 => ?_) (fun c1 => ?_)
  · refine T.iconst dX9_paid_15 ?_
    exact T.iret dX9_paid_16 ⟨congrArg (fun z => some (Value.int (iI z))) (Eq.symm (show npaidR S N l d = (-1) from by unfold npaidR; rw [if_pos (by omega)] <;> first | rfl | omega)), congrArg (fun z => hp E (wrM m z)) (Eq.symm (show npaidS S N l d = S from by unfold npaidS; rw [if_pos (by omega)] <;> rfl))⟩
  · refine T.aload_n dX9_paid_7 rfl ?_
    refine T.iload_n dX9_paid_8 rfl ?_
    refine T.cV1 (As := [.int (iI d)]) (st := []) dX9_paid_9 lk_X9_102 (n_isDebt E m S hS (by unfold rg; omega)) ok29 rfl rfl (by decide) rfl rfl (Nat.le_of_ble_eq_true rfl) ?_
    have n2 : (0 ≤ S 29 0 ∧ S 29 0 ≤ 8) ∧ 0 ≤ S 29 2 ∧ S 29 2 ≤ 12 := ⟨hS 29 0 rfl, hS 29 2 rfl⟩
    refine T.ifB_ne 17 dX9_paid_12 (fun c3 => ?_) (fun c3 => ?_)
    · refine T.aload_n dX9_paid_17 rfl ?_
      refine T.cV0 (As := []) (st := []) dX9_paid_18 lk_X9_180 (n_begin E m S) ok29 rfl rfl (by decide) rfl rfl (Nat.le_of_ble_eq_true rfl) ?_
      refine T.iconst dX9_paid_21 ?_
      refine T.istore_n (ls' := [some (rf E 29 0 0), some (.int (iI l)), some (.int (iI d)), some (.int (iI 0))]) dX9_paid_22 rfl ?_
      rw [show npaidR S N l d = (pdF l.toNat d.toNat N 0 (begS S)).1 from by unfold npaidR; rw [if_neg (by omega)], show npaidS S N l d = (pdF l.toNat d.toNat N 0 (begS S)).2 from by unfold npaidS; rw [if_neg (by omega)]]
      have h0 := n_paid_lp E m S l.toNat d.toNat hS hO (by omega) (by omega) N hN _ 0 _ rfl (Nat.zero_le _) rfl
      rw [show (((l).toNat : Nat) : Int) = l from by omega] at h0
      rw [show (((d).toNat : Nat) : Int) = d from by omega] at h0
      exact h0
    · refine T.iconst dX9_paid_15 ?_
      exact T.iret dX9_paid_16 ⟨congrArg (fun z => some (Value.int (iI z))) (Eq.symm (show npaidR S N l d = (-1) from by unfold npaidR; rw [if_pos (by omega)] <;> first | rfl | omega)), congrArg (fun z => hp E (wrM m z)) (Eq.symm (show npaidS S N l d = S from by unfold npaidS; rw [if_pos (by omega)] <;> rfl))⟩
