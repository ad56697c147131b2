def refR (m : Mem) (i : Nat) (la fr n : Int) : Int := if m 27 i 0 0 = 0 then -11 else if la ≠ m 27 i 0 3 then -12 else if fr < 0 ∨ m 27 i 0 1 - n < fr then -13 else 0
set_option maxHeartbeats 4000000 in
set_option maxRecDepth 100000 in
theorem c_refusal (E : Ev) (m : Mem) (i : Nat) (la fr n : Int) (hI : Inv m) (hi : i < 4) (h1 : rg la) (h2 : rg fr) (h3 : 0 ≤ n ∧ n ≤ 24) : CT E 1 mX5_refusal [rf E 27 i 0, .int (iI la), .int (iI fr), .int (iI n)] (hp E m) (some (.int (iI (refR m i la fr n)))) (hp E m) := by
  refine CT.go okX5_refusal (Nat.le_of_ble_eq_true rfl) ?_
  show T E 1 mX5_refusal 0 [some (rf E 27 i 0), some (.int (iI la)), some (.int (iI fr)), some (.int (iI n))] [] (hp E m) _
  unfold rg at h1 h2
  refine T.aload_n dX5_refusal_0 rfl ?_
  refine T.gI (z := m 27 i 0 0) dX5_refusal_1 fo_X5_9 (ok27 (by omega)) rfl rfl rfl ?_
  have q1 : 0 ≤ m 27 i 0 0 ∧ m 27 i 0 0 ≤ 1 := hI 27 i 0 0
  refine T.if_ne 10 dX5_refusal_4 (by unfold rg; omega) (fun c2 => ?_) (fun c2 => ?_)
  · refine T.iload_n dX5_refusal_10 rfl ?_
    refine T.aload_n dX5_refusal_11 rfl ?_
    refine T.gI (z := m 27 i 0 3) dX5_refusal_12 fo_X5_23 (ok27 (by omega)) rfl rfl rfl ?_
    have q3 : 0 ≤ m 27 i 0 3 ∧ m 27 i 0 3 ≤ 2 := hI 27 i 0 3
    refine T.icmp_eq 21 dX5_refusal_15 (by unfold rg; omega) (by unfold rg; omega) (fun c4 => ?_) (fun c4 => ?_)
    · refine T.iload_n dX5_refusal_21 rfl ?_
      refine T.if_lt 35 dX5_refusal_22 (by unfold rg; omega) (fun c5 => ?_) (fun c5 => ?_)
      · refine T.bipush dX5_refusal_35 ?_
        refine T.goto 41 dX5_refusal_37 ?_
        exact T.iret dX5_refusal_41 ⟨congrArg (fun z => some (Value.int (iI z))) (Eq.symm (show refR m i la fr n = (-13) from by unfold refR; rw [if_neg (by omega), if_neg (by omega), if_pos (by omega)])), rfl⟩
      · refine T.iload_n dX5_refusal_25 rfl ?_
        refine T.aload_n dX5_refusal_26 rfl ?_
        refine T.gI (z := m 27 i 0 1) dX5_refusal_27 fo_X5_15 (ok27 (by omega)) rfl rfl rfl ?_
        have q6 : 0 ≤ m 27 i 0 1 ∧ m 27 i 0 1 ≤ 24 := hI 27 i 0 1
        refine T.iload_n dX5_refusal_30 rfl ?_
        refine T.isub dX5_refusal_31 ?_
        refine T.icmp_le 40 dX5_refusal_32 (by unfold rg; omega) (by unfold rg; omega) (fun c7 => ?_) (fun c7 => ?_)
        · refine T.iconst dX5_refusal_40 ?_
          exact T.iret dX5_refusal_41 ⟨congrArg (fun z => some (Value.int (iI z))) (Eq.symm (show refR m i la fr n = 0 from by unfold refR; rw [if_neg (by omega), if_neg (by omega), if_neg (by omega)])), rfl⟩
        · refine T.bipush dX5_refusal_35 ?_
          refine T.goto 41 dX5_refusal_37 ?_
          exact T.iret dX5_refusal_41 ⟨congrArg (fun z => some (Value.int (iI z))) (Eq.symm (show refR m i la fr n = (-13) from by unfold refR; rw [if_neg (by omega), if_neg (by omega), if_pos (by omega)])), rfl⟩
    · refine T.bipush dX5_refusal_18 ?_
      exact T.iret dX5_refusal_20 ⟨congrArg (fun z => some (Value.int (iI z))) (Eq.symm (show refR m i la fr n = (-12) from by unfold refR; rw [if_neg (by omega), if_pos (by omega)])), rfl⟩
  · refine T.bipush dX5_refusal_7 ?_
    exact T.iret dX5_refusal_9 ⟨congrArg (fun z => some (Value.int (iI z))) (Eq.symm (show refR m i la fr n = (-11) from by unfold refR; rw [if_pos (by omega)])), rfl⟩
def begSh (m : Mem) (i : Nat) (la n : Int) : Mem := updS (up (up (up m 27 i 0 0 1) 27 i 0 3 la) 27 i 0 1 n) 28 i 0 (fil0 (m 28 i 0) 24 0)
set_option maxHeartbeats 4000000 in
set_option maxRecDepth 100000 in
theorem c_begSh (E : Ev) (m : Mem) (i : Nat) (la n : Int) (hi : i < 4) : CT E 2 mX5_begin [rf E 27 i 0, .int (iI la), .int (iI n)] (hp E m) (none) (hp E (begSh m i la n)) := by
  refine CT.go okX5_begin (Nat.le_of_ble_eq_true rfl) ?_
  show T E 2 mX5_begin 0 [some (rf E 27 i 0), some (.int (iI la)), some (.int (iI n))] [] (hp E m) _
  refine T.aload_n dX5_begin_0 rfl ?_
  refine T.iconst dX5_begin_1 ?_
  refine T.mputZ dX5_begin_2 fp_X5_9 (Or.inr rfl) (ok27 (by omega)) rfl rfl (Nat.le_of_ble_eq_true rfl) ?_
  refine T.aload_n dX5_begin_5 rfl ?_
  refine T.iload_n dX5_begin_6 rfl ?_
  refine T.mputI dX5_begin_7 fp_X5_23 (ok27 (by omega)) rfl rfl (Nat.le_of_ble_eq_true rfl) ?_
  refine T.aload_n dX5_begin_10 rfl ?_
  refine T.iload_n dX5_begin_11 rfl ?_
  refine T.mputI dX5_begin_12 fp_X5_15 (ok27 (by omega)) rfl rfl (Nat.le_of_ble_eq_true rfl) ?_
  refine T.aload_n dX5_begin_15 rfl ?_
  refine T.mget (v := rf E 28 i 0) dX5_begin_16 fo_X5_19 (ok27 (by omega)) rfl rfl ?_
  refine T.iconst dX5_begin_19 ?_
  refine T.cS0 (As := [rf E 28 i 0, .int (iI 0)]) (st := []) dX5_begin_20 lk_X5_26 (c_fillI E (up (up (up m 27 i 0 0 1) 27 i 0 3 la) 27 i 0 1 n) 28 i 0 24 0 (ok28 hi) (fun _ => rfl) (by decide)) (by decide) rfl rfl (Nat.le_of_ble_eq_true rfl) ?_
  exact T.vret dX5_begin_23 ⟨rfl, rfl⟩
def b8 (v : Int) : Int := ((iI v).toInt8.toInt32).toInt
def b16 (v : Int) : Int := ((iI v).toInt16.toInt32).toInt
def nar (la v : Int) : Int := if la = 0 then b8 v else if la = 1 then b16 v else v
set_option maxHeartbeats 4000000 in
set_option maxRecDepth 100000 in
theorem c_wrSh (E : Ev) (m : Mem) (i : Nat) (x v : Int) (hI : Inv m) (hi : i < 4) (hx : 0 ≤ x ∧ x < 24) : CT E 1 mX5_write [rf E 27 i 0, .int (iI x), .int (iI v)] (hp E m) (none) (hp E (up m 28 i 0 x.toNat (nar (m 27 i 0 3) v))) := by
  refine CT.go okX5_write (Nat.le_of_ble_eq_true rfl) ?_
  show T E 1 mX5_write 0 [some (rf E 27 i 0), some (.int (iI x)), some (.int (iI v))] [] (hp E m) _
  refine T.aload_n dX5_write_0 rfl ?_
  refine T.mget (v := rf E 28 i 0) dX5_write_1 fo_X5_19 (ok27 (by omega)) rfl rfl ?_
  refine T.iload_n dX5_write_4 rfl ?_
  refine T.aload_n dX5_write_5 rfl ?_
  refine T.gI (z := m 27 i 0 3) dX5_write_6 fo_X5_23 (ok27 (by omega)) rfl rfl rfl ?_
  have q1 : 0 ≤ m 27 i 0 3 ∧ m 27 i 0 3 ≤ 2 := hI 27 i 0 3
  refine T.if_ne 17 dX5_write_9 (by unfold rg; omega) (fun c2 => ?_) (fun c2 => ?_)
  · refine T.aload_n dX5_write_17 rfl ?_
    refine T.gI (z := m 27 i 0 3) dX5_write_18 fo_X5_23 (ok27 (by omega)) rfl rfl rfl ?_
    refine T.iconst dX5_write_21 ?_
    refine T.icmp_ne 30 dX5_write_22 (by unfold rg; omega) (by unfold rg; omega) (fun c3 => ?_) (fun c3 => ?_)
    · refine T.iload_n dX5_write_30 rfl ?_
      refine T.mist (x := x.toNat) dX5_write_31 (ok28 (by omega)) (fun _ => rfl) (by omega) (by omega) ?_
      exact T.vret dX5_write_32 ⟨rfl, by rw [show nar (m 27 i 0 3) v = v from by unfold nar; rw [if_neg (by omega), if_neg (by omega)]]⟩
    · refine T.iload_n dX5_write_25 rfl ?_
      refine T.i2s dX5_write_26 ?_
      refine T.topi (z := b16 v) (iI_of _).symm ?_
      refine T.goto 31 dX5_write_27 ?_
      refine T.mist (x := x.toNat) dX5_write_31 (ok28 (by omega)) (fun _ => rfl) (by omega) (by omega) ?_
      exact T.vret dX5_write_32 ⟨rfl, by rw [show nar (m 27 i 0 3) v = b16 v from by unfold nar; rw [if_neg (by omega), if_pos (by omega)]]⟩
  · refine T.iload_n dX5_write_12 rfl ?_
    refine T.i2b dX5_write_13 ?_
    refine T.topi (z := b8 v) (iI_of _).symm ?_
    refine T.goto 31 dX5_write_14 ?_
    refine T.mist (x := x.toNat) dX5_write_31 (ok28 (by omega)) (fun _ => rfl) (by omega) (by omega) ?_
    exact T.vret dX5_write_32 ⟨rfl, by rw [show nar (m 27 i 0 3) v = b8 v from by unfold nar; rw [if_pos (by omega)]]⟩
theorem refR_rg (m : Mem) (i : Nat) (la fr n : Int) : -13 ≤ refR m i la fr n ∧ refR m i la fr n ≤ 0 := by unfold refR; (repeat split) <;> omega
def sheetR (m : Mem) (s la n : Int) : Int := if ¬ ((0 ≤ s ∧ s ≤ 3) ∧ (0 ≤ la ∧ la ≤ 2) ∧ n ≤ 24) then -1 else if n < 0 then -14 else n
def sheetM (m : Mem) (s la n : Int) : Mem := if ¬ ((0 ≤ s ∧ s ≤ 3) ∧ (0 ≤ la ∧ la ≤ 2) ∧ n ≤ 24) then m else if n < 0 then m else begSh m s.toNat la n
set_option maxHeartbeats 4000000 in
set_option maxRecDepth 100000 in
theorem c_sheet (E : Ev) (m : Mem) (s la n : Int) (hI : Inv m) (h1 : rg s) (h2 : rg la) (h3 : rg n) : CT E 3 mX8_sheet [rf E 0 0 0, .int (iI s), .int (iI la), .int (iI n)] (hp E m) (some (.int (iI (sheetR m s la n)))) (hp E (sheetM m s la n)) := by
  refine CT.go okX8_sheet (Nat.le_of_ble_eq_true rfl) ?_
  show T E 3 mX8_sheet 0 [some (rf E 0 0 0), some (.int (iI s)), some (.int (iI la)), some (.int (iI n))] [] (hp E m) _
  unfold rg at h1 h2 h3
  refine T.iload_n dX8_sheet_0 rfl ?_
  refine T.cS1 (As := [.int (iI s)]) (st := []) dX8_sheet_1 lk_X8_100 (c_isSheet E _ (by unfold rg; omega)) (by decide) rfl rfl (Nat.le_of_ble_eq_true rfl) ?_
  refine T.ifB_eq 20 dX8_sheet_4 (fun c1 => ?_) (fun c1 => ?_)
  · refine T.iconst dX8_sheet_20 ?_
    exact T.iret dX8_sheet_21 ⟨congrArg (fun z => some (Value.int (iI z))) (Eq.symm (show sheetR m s la n = (-1) from by unfold sheetR; rw [if_pos (by omega)] <;> first | rfl | omega)), congrArg (hp E) (Eq.symm (show sheetM m s la n = m from by unfold sheetM; rw [if_pos (by omega)] <;> rfl))⟩
  · refine T.iload_n dX8_sheet_7 rfl ?_
    refine T.cS1 (As := [.int (iI la)]) (st := []) dX8_sheet_8 lk_X8_103 (c_isLane E _ (by unfold rg; omega)) (by decide) rfl rfl (Nat.le_of_ble_eq_true rfl) ?_
    refine T.ifB_eq 20 dX8_sheet_11 (fun c2 => ?_) (fun c2 => ?_)
    · refine T.iconst dX8_sheet_20 ?_
      exact T.iret dX8_sheet_21 ⟨congrArg (fun z => some (Value.int (iI z))) (Eq.symm (show sheetR m s la n = (-1) from by unfold sheetR; rw [if_pos (by omega)] <;> first | rfl | omega)), congrArg (hp E) (Eq.symm (show sheetM m s la n = m from by unfold sheetM; rw [if_pos (by omega)] <;> rfl))⟩
    · refine T.iload_n dX8_sheet_14 rfl ?_
      refine T.bipush dX8_sheet_15 ?_
      refine T.icmp_le 22 dX8_sheet_17 (by unfold rg; omega) (by unfold rg; omega) (fun c3 => ?_) (fun c3 => ?_)
      · refine T.iload_n dX8_sheet_22 rfl ?_
        refine T.if_ge 29 dX8_sheet_23 (by unfold rg; omega) (fun c4 => ?_) (fun c4 => ?_)
        · refine T.aload_n dX8_sheet_29 rfl ?_
          refine T.mget (v := rf E 26 0 0) dX8_sheet_30 fo_X8_49 ok0 rfl rfl ?_
          refine T.iload_n dX8_sheet_33 rfl ?_
          refine T.mald (C := RX5) (x := s.toNat) dX8_sheet_34 ok26 (fun _ => rfl) rfl (by omega) (by omega) ?_
          refine T.iload_n dX8_sheet_35 rfl ?_
          refine T.iload_n dX8_sheet_36 rfl ?_
          refine T.cV0 (As := [.int (iI la), .int (iI n)]) (st := []) dX8_sheet_37 lk_X8_283 (c_begSh E m s.toNat la n (by omega)) (ok27 (by omega)) rfl rfl (by decide) rfl rfl (Nat.le_of_ble_eq_true rfl) ?_
          refine T.iload_n dX8_sheet_40 rfl ?_
          exact T.iret dX8_sheet_41 ⟨congrArg (fun z => some (Value.int (iI z))) (Eq.symm (show sheetR m s la n = n from by unfold sheetR; rw [if_neg (by omega), if_neg (by omega)] <;> first | rfl | omega)), congrArg (hp E) (Eq.symm (show sheetM m s la n = (begSh m s.toNat la n) from by unfold sheetM; rw [if_neg (by omega), if_neg (by omega)] <;> rfl))⟩
        · refine T.bipush dX8_sheet_26 ?_
          exact T.iret dX8_sheet_28 ⟨congrArg (fun z => some (Value.int (iI z))) (Eq.symm (show sheetR m s la n = (-14) from by unfold sheetR; rw [if_neg (by omega), if_pos (by omega)] <;> first | rfl | omega)), congrArg (hp E) (Eq.symm (show sheetM m s la n = m from by unfold sheetM; rw [if_neg (by omega), if_pos (by omega)] <;> rfl))⟩
      · refine T.iconst dX8_sheet_20 ?_
        exact T.iret dX8_sheet_21 ⟨congrArg (fun z => some (Value.int (iI z))) (Eq.symm (show sheetR m s la n = (-1) from by unfold sheetR; rw [if_pos (by omega)] <;> first | rfl | omega)), congrArg (hp E) (Eq.symm (show sheetM m s la n = m from by unfold sheetM; rw [if_pos (by omega)] <;> rfl))⟩
def dropR (m : Mem) (s : Int) : Int := if ¬ (0 ≤ s ∧ s ≤ 3) then -1 else if m 27 s.toNat 0 0 = 0 then -11 else m 27 s.toNat 0 1
def dropM (m : Mem) (s : Int) : Mem := if ¬ (0 ≤ s ∧ s ≤ 3) then m else if m 27 s.toNat 0 0 = 0 then m else up m 27 s.toNat 0 0 0
set_option maxHeartbeats 4000000 in
set_option maxRecDepth 100000 in
theorem c_drop (E : Ev) (m : Mem) (s : Int) (hI : Inv m) (h1 : rg s) : CT E 3 mX8_drop [rf E 0 0 0, .int (iI s)] (hp E m) (some (.int (iI (dropR m s)))) (hp E (dropM m s)) := by
  refine CT.go okX8_drop (Nat.le_of_ble_eq_true rfl) ?_
  show T E 3 mX8_drop 0 [some (rf E 0 0 0), some (.int (iI s))] [] (hp E m) _
  unfold rg at h1
  refine T.iload_n dX8_drop_0 rfl ?_
  refine T.cS1 (As := [.int (iI s)]) (st := []) dX8_drop_1 lk_X8_100 (c_isSheet E _ (by unfold rg; omega)) (by decide) rfl rfl (Nat.le_of_ble_eq_true rfl) ?_
  refine T.ifB_ne 9 dX8_drop_4 (fun c1 => ?_) (fun c1 => ?_)
  · refine T.aload_n dX8_drop_9 rfl ?_
    refine T.mget (v := rf E 26 0 0) dX8_drop_10 fo_X8_49 ok0 rfl rfl ?_
    refine T.iload_n dX8_drop_13 rfl ?_
    refine T.mald (C := RX5) (x := s.toNat) dX8_drop_14 ok26 (fun _ => rfl) rfl (by omega) (by omega) ?_
    refine T.gI (z := m 27 s.toNat 0 0) dX8_drop_15 fo_X8_285 (ok27 (by omega)) rfl rfl rfl ?_
    have q2 : 0 ≤ m 27 s.toNat 0 0 ∧ m 27 s.toNat 0 0 ≤ 1 := hI 27 s.toNat 0 0
    refine T.if_ne 24 dX8_drop_18 (by unfold rg; omega) (fun c3 => ?_) (fun c3 => ?_)
    · refine T.aload_n dX8_drop_24 rfl ?_
      refine T.mget (v := rf E 26 0 0) dX8_drop_25 fo_X8_49 ok0 rfl rfl ?_
      refine T.iload_n dX8_drop_28 rfl ?_
      refine T.mald (C := RX5) (x := s.toNat) dX8_drop_29 ok26 (fun _ => rfl) rfl (by omega) (by omega) ?_
      refine T.iconst dX8_drop_30 ?_
      refine T.mputZ dX8_drop_31 fp_X8_285 (Or.inl rfl) (ok27 (by omega)) rfl rfl (Nat.le_of_ble_eq_true rfl) ?_
      refine T.aload_n dX8_drop_34 rfl ?_
      refine T.mget (v := rf E 26 0 0) dX8_drop_35 fo_X8_49 ok0 rfl rfl ?_
      refine T.iload_n dX8_drop_38 rfl ?_
      refine T.mald (C := RX5) (x := s.toNat) dX8_drop_39 ok26 (fun _ => rfl) rfl (by omega) (by omega) ?_
      refine T.gI (z := m 27 s.toNat 0 1) dX8_drop_40 fo_X8_288 (ok27 (by omega)) rfl rfl (by simp [up]) ?_
      have q4 : 0 ≤ m 27 s.toNat 0 1 ∧ m 27 s.toNat 0 1 ≤ 24 := hI 27 s.toNat 0 1
      exact T.iret dX8_drop_43 ⟨congrArg (fun z => some (Value.int (iI z))) (Eq.symm (show dropR m s = m 27 s.toNat 0 1 from by unfold dropR; rw [if_neg (by omega), if_neg (by omega)] <;> first | rfl | omega)), congrArg (hp E) (Eq.symm (show dropM m s = (up m 27 s.toNat 0 0 0) from by unfold dropM; rw [if_neg (by omega), if_neg (by omega)] <;> rfl))⟩
    · refine T.bipush dX8_drop_21 ?_
      exact T.iret dX8_drop_23 ⟨congrArg (fun z => some (Value.int (iI z))) (Eq.symm (show dropR m s = (-11) from by unfold dropR; rw [if_neg (by omega), if_pos (by omega)] <;> first | rfl | omega)), congrArg (hp E) (Eq.symm (show dropM m s = m from by unfold dropM; rw [if_neg (by omega), if_pos (by omega)] <;> rfl))⟩
  · refine T.iconst dX8_drop_7 ?_
    exact T.iret dX8_drop_8 ⟨congrArg (fun z => some (Value.int (iI z))) (Eq.symm (show dropR m s = (-1) from by unfold dropR; rw [if_pos (by omega)] <;> first | rfl | omega)), congrArg (hp E) (Eq.symm (show dropM m s = m from by unfold dropM; rw [if_pos (by omega)] <;> rfl))⟩
def itemR (m : Mem) (s la i v : Int) : Int := if ¬ ((0 ≤ s ∧ s ≤ 3) ∧ (0 ≤ la ∧ la ≤ 2)) then -1 else if refR m s.toNat la i 1 ≠ 0 then refR m s.toNat la i 1 else 1
def itemM (m : Mem) (s la i v : Int) : Mem := if ¬ ((0 ≤ s ∧ s ≤ 3) ∧ (0 ≤ la ∧ la ≤ 2)) then m else if refR m s.toNat la i 1 ≠ 0 then m else up m 28 s.toNat 0 i.toNat (nar (m 27 s.toNat 0 3) v)
theorem refR_in {m : Mem} {i : Nat} {la fr n : Int} (h : refR m i la fr n = 0) : m 27 i 0 0 ≠ 0 ∧ la = m 27 i 0 3 ∧ 0 ≤ fr ∧ fr ≤ m 27 i 0 1 - n := by
  unfold refR at h
  split at h
  · omega
  · split at h
    · omega
    · split at h
      · omega
      · omega
set_option maxHeartbeats 4000000 in
set_option maxRecDepth 100000 in
theorem c_item (E : Ev) (m : Mem) (s la i v : Int) (hI : Inv m) (h1 : rg s) (h2 : rg la) (h3 : rg i) : CT E 3 mX8_item [rf E 0 0 0, .int (iI s), .int (iI la), .int (iI i), .int (iI v)] (hp E m) (some (.int (iI (itemR m s la i v)))) (hp E (itemM m s la i v)) := by
  refine CT.go okX8_item (Nat.le_of_ble_eq_true rfl) ?_
  show T E 3 mX8_item 0 [some (rf E 0 0 0), some (.int (iI s)), some (.int (iI la)), some (.int (iI i)), some (.int (iI v)), none] [] (hp E m) _
  unfold rg at h1 h2 h3
  refine T.iload_n dX8_item_0 rfl ?_
  refine T.cS1 (As := [.int (iI s)]) (st := []) dX8_item_1 lk_X8_100 (c_isSheet E _ (by unfold rg; omega)) (by decide) rfl rfl (Nat.le_of_ble_eq_true rfl) ?_
  refine T.ifB_eq 14 dX8_item_4 (fun c1 => ?_) (fun c1 => ?_)
  · refine T.iconst dX8_item_14 ?_
    exact T.iret dX8_item_15 ⟨congrArg (fun z => some (Value.int (iI z))) (Eq.symm (show itemR m s la i v = (-1) from by unfold itemR; rw [if_pos (by omega)] <;> first | rfl | omega)), congrArg (hp E) (Eq.symm (show itemM m s la i v = m from by unfold itemM; rw [if_pos (by omega)] <;> rfl))⟩
  · refine T.iload_n dX8_item_7 rfl ?_
    refine T.cS1 (As := [.int (iI la)]) (st := []) dX8_item_8 lk_X8_103 (c_isLane E _ (by unfold rg; omega)) (by decide) rfl rfl (Nat.le_of_ble_eq_true rfl) ?_
    refine T.ifB_ne 16 dX8_item_11 (fun c2 => ?_) (fun c2 => ?_)
    · refine T.aload_n dX8_item_16 rfl ?_
      refine T.mget (v := rf E 26 0 0) dX8_item_17 fo_X8_49 ok0 rfl rfl ?_
      refine T.iload_n dX8_item_20 rfl ?_
      refine T.mald (C := RX5) (x := s.toNat) dX8_item_21 ok26 (fun _ => rfl) rfl (by omega) (by omega) ?_
      refine T.iload_n dX8_item_22 rfl ?_
      refine T.iload_n dX8_item_23 rfl ?_
      refine T.iconst dX8_item_24 ?_
      refine T.cV1 (As := [.int (iI la), .int (iI i), .int (iI 1)]) (st := []) dX8_item_25 lk_X8_106 (c_refusal E m s.toNat la i 1 hI (by omega) (by unfold rg; omega) (by unfold rg; omega) (by omega)) (ok27 (by omega)) rfl rfl (by decide) rfl rfl (Nat.le_of_ble_eq_true rfl) ?_
      have n3 := refR_rg m s.toNat la i 1
      refine T.istore (ls' := [some (rf E 0 0 0), some (.int (iI s)), some (.int (iI la)), some (.int (iI i)), some (.int (iI v)), some (.int (iI (refR m s.toNat la i 1)))]) dX8_item_28 rfl ?_
      refine T.iload dX8_item_30 rfl ?_
      refine T.if_eq 38 dX8_item_32 (by unfold rg; omega) (fun c4 => ?_) (fun c4 => ?_)
      · refine T.aload_n dX8_item_38 rfl ?_
        refine T.mget (v := rf E 26 0 0) dX8_item_39 fo_X8_49 ok0 rfl rfl ?_
        refine T.iload_n dX8_item_42 rfl ?_
        refine T.mald (C := RX5) (x := s.toNat) dX8_item_43 ok26 (fun _ => rfl) rfl (by omega) (by omega) ?_
        refine T.iload_n dX8_item_44 rfl ?_
        refine T.iload dX8_item_45 rfl ?_
        refine T.cV0 (As := [.int (iI i), .int (iI v)]) (st := []) dX8_item_47 lk_X8_289 (c_wrSh E m s.toNat i v hI (by omega) (by have hz := refR_in (m := m) (i := s.toNat) (la := la) (fr := i) (n := 1) (by assumption); have z1 : 0 ≤ m 27 s.toNat 0 1 ∧ m 27 s.toNat 0 1 ≤ 24 := hI 27 s.toNat 0 1; omega)) (ok27 (by omega)) rfl rfl (by decide) rfl rfl (Nat.le_of_ble_eq_true rfl) ?_
        refine T.iconst dX8_item_50 ?_
        exact T.iret dX8_item_51 ⟨congrArg (fun z => some (Value.int (iI z))) (Eq.symm (show itemR m s la i v = 1 from by unfold itemR; rw [if_neg (by omega), if_neg (by omega)] <;> first | rfl | omega)), congrArg (hp E) (Eq.symm (show itemM m s la i v = (up m 28 s.toNat 0 i.toNat (nar (m 27 s.toNat 0 3) v)) from by unfold itemM; rw [if_neg (by omega), if_neg (by omega)] <;> rfl))⟩
      · refine T.iload dX8_item_35 rfl ?_
        exact T.iret dX8_item_37 ⟨congrArg (fun z => some (Value.int (iI z))) (Eq.symm (show itemR m s la i v = refR m s.toNat la i 1 from by unfold itemR; rw [if_neg (by omega), if_pos (by omega)] <;> first | rfl | omega)), congrArg (hp E) (Eq.symm (show itemM m s la i v = m from by unfold itemM; rw [if_neg (by omega), if_pos (by omega)] <;> rfl))⟩
    · refine T.iconst dX8_item_14 ?_
      exact T.iret dX8_item_15 ⟨congrArg (fun z => some (Value.int (iI z))) (Eq.symm (show itemR m s la i v = (-1) from by unfold itemR; rw [if_pos (by omega)] <;> first | rfl | omega)), congrArg (hp E) (Eq.symm (show itemM m s la i v = m from by unfold itemM; rw [if_pos (by omega)] <;> rfl))⟩
def imageM (m : Mem) : Mem := up (cpBk m 1 0) 0 0 0 2 1
set_option maxHeartbeats 4000000 in
set_option maxRecDepth 100000 in
theorem c_image (E : Ev) (m : Mem) (hI : Inv m) : CT E 3 mX8_image [rf E 0 0 0] (hp E m) (some (.int (iI 1))) (hp E (imageM m)) := by
  refine CT.go okX8_image (Nat.le_of_ble_eq_true rfl) ?_
  show T E 3 mX8_image 0 [some (rf E 0 0 0)] [] (hp E m) _
  refine T.aload_n dX8_image_0 rfl ?_
  refine T.mget (v := rf E 1 1 0) dX8_image_1 fo_X8_16 ok0 rfl rfl ?_
  refine T.aload_n dX8_image_4 rfl ?_
  refine T.mget (v := rf E 1 0 0) dX8_image_5 fo_X8_10 ok0 rfl rfl ?_
  refine T.cV0 (As := [rf E 1 0 0]) (st := []) dX8_image_8 lk_X8_279 (c_cpBk E m 1 0 (by decide) (by decide) hI (by decide)) (ok1 (by decide)) rfl rfl (by decide) rfl rfl (Nat.le_of_ble_eq_true rfl) ?_
  refine T.aload_n dX8_image_11 rfl ?_
  refine T.iconst dX8_image_12 ?_
  refine T.mputZ dX8_image_13 fp_X8_19 (Or.inr rfl) ok0 rfl rfl (Nat.le_of_ble_eq_true rfl) ?_
  refine T.iconst dX8_image_16 ?_
  exact T.iret dX8_image_17 ⟨rfl, rfl⟩
def restoreR (m : Mem) : Int := if m 0 0 0 2 = 0 then -4 else 1
def restoreM (m : Mem) : Mem := if m 0 0 0 2 = 0 then m else cpBk m 0 1
set_option maxHeartbeats 4000000 in
set_option maxRecDepth 100000 in
theorem c_restore (E : Ev) (m : Mem) (hI : Inv m) : CT E 3 mX8_restore [rf E 0 0 0] (hp E m) (some (.int (iI (restoreR m)))) (hp E (restoreM m)) := by
  refine CT.go okX8_restore (Nat.le_of_ble_eq_true rfl) ?_
  show T E 3 mX8_restore 0 [some (rf E 0 0 0)] [] (hp E m) _
  refine T.aload_n dX8_restore_0 rfl ?_
  refine T.gI (z := m 0 0 0 2) dX8_restore_1 fo_X8_19 ok0 rfl rfl rfl ?_
  have q1 : 0 ≤ m 0 0 0 2 ∧ m 0 0 0 2 ≤ 1 := hI 0 0 0 2
  refine T.if_ne 10 dX8_restore_4 (by unfold rg; omega) (fun c2 => ?_) (fun c2 => ?_)
  · refine T.aload_n dX8_restore_10 rfl ?_
    refine T.mget (v := rf E 1 0 0) dX8_restore_11 fo_X8_10 ok0 rfl rfl ?_
    refine T.aload_n dX8_restore_14 rfl ?_
    refine T.mget (v := rf E 1 1 0) dX8_restore_15 fo_X8_16 ok0 rfl rfl ?_
    refine T.cV0 (As := [rf E 1 1 0]) (st := []) dX8_restore_18 lk_X8_279 (c_cpBk E m 0 1 (by decide) (by decide) hI (by decide)) (ok1 (by decide)) rfl rfl (by decide) rfl rfl (Nat.le_of_ble_eq_true rfl) ?_
    refine T.iconst dX8_restore_21 ?_
    exact T.iret dX8_restore_22 ⟨congrArg (fun z => some (Value.int (iI z))) (Eq.symm (show restoreR m  = 1 from by unfold restoreR; rw [if_neg (by omega)] <;> first | rfl | omega)), congrArg (hp E) (Eq.symm (show restoreM m  = (cpBk m 0 1) from by unfold restoreM; rw [if_neg (by omega)] <;> rfl))⟩
  · refine T.bipush dX8_restore_7 ?_
    exact T.iret dX8_restore_9 ⟨congrArg (fun z => some (Value.int (iI z))) (Eq.symm (show restoreR m  = (-4) from by unfold restoreR; rw [if_pos (by omega)] <;> first | rfl | omega)), congrArg (hp E) (Eq.symm (show restoreM m  = m from by unfold restoreM; rw [if_pos (by omega)] <;> rfl))⟩
def letterR (m : Mem) (l i : Int) : Int := if ¬ ((0 ≤ l ∧ l ≤ 1) ∧ 0 ≤ i) then -1 else if i < m 8 (2 * 0 + l.toNat) 0 1 ∧ i < 10 then m 9 (2 * 0 + l.toNat) 0 i.toNat else -4
def letterM (m : Mem) (l i : Int) : Mem := if ¬ ((0 ≤ l ∧ l ≤ 1) ∧ 0 ≤ i) then m else if i < m 8 (2 * 0 + l.toNat) 0 1 ∧ i < 10 then m else m
set_option maxHeartbeats 4000000 in
set_option maxRecDepth 100000 in
theorem c_letter (E : Ev) (m : Mem) (l i : Int) (hI : Inv m) (h1 : rg l) (h2 : rg i) : CT E 3 mX8_letter [rf E 0 0 0, .int (iI l), .int (iI i)] (hp E m) (some (.int (iI (letterR m l i)))) (hp E (letterM m l i)) := by
  refine CT.go okX8_letter (Nat.le_of_ble_eq_true rfl) ?_
  show T E 3 mX8_letter 0 [some (rf E 0 0 0), some (.int (iI l)), some (.int (iI i)), none] [] (hp E m) _
  unfold rg at h1 h2
  refine T.iload_n dX8_letter_0 rfl ?_
  refine T.cS1 (As := [.int (iI l)]) (st := []) dX8_letter_1 lk_X8_153 (c_isLaw E _ (by unfold rg; omega)) (by decide) rfl rfl (Nat.le_of_ble_eq_true rfl) ?_
  refine T.ifB_eq 11 dX8_letter_4 (fun c1 => ?_) (fun c1 => ?_)
  · refine T.iconst dX8_letter_11 ?_
    exact T.iret dX8_letter_12 ⟨congrArg (fun z => some (Value.int (iI z))) (Eq.symm (show letterR m l i = (-1) from by unfold letterR; rw [if_pos (by omega)] <;> first | rfl | omega)), congrArg (hp E) (Eq.symm (show letterM m l i = m from by unfold letterM; rw [if_pos (by omega)] <;> rfl))⟩
  · refine T.iload_n dX8_letter_7 rfl ?_
    refine T.if_ge 13 dX8_letter_8 (by unfold rg; omega) (fun c2 => ?_) (fun c2 => ?_)
    · refine T.aload_n dX8_letter_13 rfl ?_
      refine T.mget (v := rf E 1 0 0) dX8_letter_14 fo_X8_10 ok0 rfl rfl ?_
      refine T.mget (v := rf E 4 0 0) dX8_letter_17 fo_X8_160 (ok1 (by decide)) rfl rfl ?_
      refine T.iload_n dX8_letter_20 rfl ?_
      refine T.mald (C := RX3) (x := l.toNat) dX8_letter_21 (ok4 (by decide)) (fun _ => rfl) rfl (by omega) (by omega) ?_
      refine T.astore_n (ls' := [some (rf E 0 0 0), some (.int (iI l)), some (.int (iI i)), some (rf E 8 (2 * 0 + l.toNat) 0)]) dX8_letter_22 rfl ?_
      refine T.iload_n dX8_letter_23 rfl ?_
      refine T.aload_n dX8_letter_24 rfl ?_
      refine T.gI (z := m 8 (2 * 0 + l.toNat) 0 1) dX8_letter_25 fo_X8_170 (ok8 (by omega)) rfl rfl rfl ?_
      have q3 : 0 ≤ m 8 (2 * 0 + l.toNat) 0 1 ∧ m 8 (2 * 0 + l.toNat) 0 1 ≤ 10 := hI 8 (2 * 0 + l.toNat) 0 1
      refine T.icmp_ge 46 dX8_letter_28 (by unfold rg; omega) (by unfold rg; omega) (fun c4 => ?_) (fun c4 => ?_)
      · refine T.bipush dX8_letter_46 ?_
        exact T.iret dX8_letter_48 ⟨congrArg (fun z => some (Value.int (iI z))) (Eq.symm (show letterR m l i = (-4) from by unfold letterR; rw [if_neg (by omega), if_neg (by omega)] <;> first | rfl | omega)), congrArg (hp E) (Eq.symm (show letterM m l i = m from by unfold letterM; rw [if_neg (by omega), if_neg (by omega)] <;> rfl))⟩
      · refine T.iload_n dX8_letter_31 rfl ?_
        refine T.bipush dX8_letter_32 ?_
        refine T.icmp_ge 46 dX8_letter_34 (by unfold rg; omega) (by unfold rg; omega) (fun c5 => ?_) (fun c5 => ?_)
        · refine T.bipush dX8_letter_46 ?_
          exact T.iret dX8_letter_48 ⟨congrArg (fun z => some (Value.int (iI z))) (Eq.symm (show letterR m l i = (-4) from by unfold letterR; rw [if_neg (by omega), if_neg (by omega)] <;> first | rfl | omega)), congrArg (hp E) (Eq.symm (show letterM m l i = m from by unfold letterM; rw [if_neg (by omega), if_neg (by omega)] <;> rfl))⟩
        · refine T.aload_n dX8_letter_37 rfl ?_
          refine T.mget (v := rf E 9 (2 * 0 + l.toNat) 0) dX8_letter_38 fo_X8_171 (ok8 (by omega)) rfl rfl ?_
          refine T.iload_n dX8_letter_41 rfl ?_
          refine T.aI (z := m 9 (2 * 0 + l.toNat) 0 i.toNat) (x := i.toNat) dX8_letter_42 (ok9 (by omega)) (fun _ => rfl) (by omega) (by omega) rfl ?_
          have q6 : 0 ≤ m 9 (2 * 0 + l.toNat) 0 i.toNat ∧ m 9 (2 * 0 + l.toNat) 0 i.toNat ≤ 127 := hI 9 (2 * 0 + l.toNat) 0 i.toNat
          refine T.goto 48 dX8_letter_43 ?_
          exact T.iret dX8_letter_48 ⟨congrArg (fun z => some (Value.int (iI z))) (Eq.symm (show letterR m l i = m 9 (2 * 0 + l.toNat) 0 i.toNat from by unfold letterR; rw [if_neg (by omega), if_pos (by omega)] <;> first | rfl | omega)), congrArg (hp E) (Eq.symm (show letterM m l i = m from by unfold letterM; rw [if_neg (by omega), if_pos (by omega)] <;> rfl))⟩
    · refine T.iconst dX8_letter_11 ?_
      exact T.iret dX8_letter_12 ⟨congrArg (fun z => some (Value.int (iI z))) (Eq.symm (show letterR m l i = (-1) from by unfold letterR; rw [if_pos (by omega)] <;> first | rfl | omega)), congrArg (hp E) (Eq.symm (show letterM m l i = m from by unfold letterM; rw [if_pos (by omega)] <;> rfl))⟩
