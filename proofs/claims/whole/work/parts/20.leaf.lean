set_option maxHeartbeats 4000000 in
set_option maxRecDepth 100000 in
theorem c_within (E : Ev) (h : Hp) {v a b : Int} (hv : rg v) (ha : rg a) (hb : rg b) : CT E 1 mX8_within [.int (iI v), .int (iI a), .int (iI b)] h (some (.int (iI (bZ (a ≤ v ∧ v ≤ b))))) h := by
  refine CT.go okX8_within (Nat.le_of_ble_eq_true rfl) ?_
  show T E 1 mX8_within 0 [some (.int (iI v)), some (.int (iI a)), some (.int (iI b))] [] h _
  unfold rg at hv ha hb
  refine T.iload_n dX8_within_0 rfl ?_
  refine T.iload_n dX8_within_1 rfl ?_
  refine T.icmp_lt 14 dX8_within_2 (by unfold rg; omega) (by unfold rg; omega) (fun c1 => ?_) (fun c1 => ?_)
  · refine T.iconst dX8_within_14 ?_
    exact T.zret dX8_within_15 (narZ (Or.inl rfl)) ⟨by rw [bZ_f (by omega)], rfl⟩
  · refine T.iload_n dX8_within_5 rfl ?_
    refine T.iload_n dX8_within_6 rfl ?_
    refine T.icmp_gt 14 dX8_within_7 (by unfold rg; omega) (by unfold rg; omega) (fun c2 => ?_) (fun c2 => ?_)
    · refine T.iconst dX8_within_14 ?_
      exact T.zret dX8_within_15 (narZ (Or.inl rfl)) ⟨by rw [bZ_f (by omega)], rfl⟩
    · refine T.iconst dX8_within_10 ?_
      refine T.goto 15 dX8_within_11 ?_
      exact T.zret dX8_within_15 (narZ (Or.inr rfl)) ⟨by rw [bZ_t (by omega)], rfl⟩
set_option maxHeartbeats 4000000 in
set_option maxRecDepth 100000 in
theorem c_isDay (E : Ev) (h : Hp) {v : Int} (hv : rg v) : CT E 2 mX8_isDay [.int (iI v)] h (some (.int (iI (bZ (0 ≤ v ∧ v ≤ 299))))) h := by
  refine CT.go okX8_isDay (Nat.le_of_ble_eq_true rfl) ?_
  show T E 2 mX8_isDay 0 [some (.int (iI v))] [] h _
  unfold rg at hv
  refine T.iload_n dX8_isDay_0 rfl ?_
  refine T.iconst dX8_isDay_1 ?_
  refine T.sipush dX8_isDay_2 ?_
  refine T.cS1 (As := [.int (iI v), .int (iI 0), .int (iI 299)]) (st := []) dX8_isDay_5 lk_X8_54 (c_within E _ (by unfold rg; omega) (by unfold rg; omega) (by unfold rg; omega)) (by decide) rfl rfl (Nat.le_of_ble_eq_true rfl) ?_
  exact T.zret dX8_isDay_8 (narZ (bZ_01 _)) ⟨by first | rfl | (congr 3; exact bZ_iff (by omega)), rfl⟩
set_option maxHeartbeats 4000000 in
set_option maxRecDepth 100000 in
theorem c_isLaw (E : Ev) (h : Hp) {v : Int} (hv : rg v) : CT E 2 mX8_isLaw [.int (iI v)] h (some (.int (iI (bZ (0 ≤ v ∧ v ≤ 1))))) h := by
  refine CT.go okX8_isLaw (Nat.le_of_ble_eq_true rfl) ?_
  show T E 2 mX8_isLaw 0 [some (.int (iI v))] [] h _
  unfold rg at hv
  refine T.iload_n dX8_isLaw_0 rfl ?_
  refine T.iconst dX8_isLaw_1 ?_
  refine T.iconst dX8_isLaw_2 ?_
  refine T.cS1 (As := [.int (iI v), .int (iI 0), .int (iI 1)]) (st := []) dX8_isLaw_3 lk_X8_54 (c_within E _ (by unfold rg; omega) (by unfold rg; omega) (by unfold rg; omega)) (by decide) rfl rfl (Nat.le_of_ble_eq_true rfl) ?_
  exact T.zret dX8_isLaw_6 (narZ (bZ_01 _)) ⟨by first | rfl | (congr 3; exact bZ_iff (by omega)), rfl⟩
set_option maxHeartbeats 4000000 in
set_option maxRecDepth 100000 in
theorem c_isSheet (E : Ev) (h : Hp) {v : Int} (hv : rg v) : CT E 2 mX8_isSheet [.int (iI v)] h (some (.int (iI (bZ (0 ≤ v ∧ v ≤ 3))))) h := by
  refine CT.go okX8_isSheet (Nat.le_of_ble_eq_true rfl) ?_
  show T E 2 mX8_isSheet 0 [some (.int (iI v))] [] h _
  unfold rg at hv
  refine T.iload_n dX8_isSheet_0 rfl ?_
  refine T.iconst dX8_isSheet_1 ?_
  refine T.iconst dX8_isSheet_2 ?_
  refine T.cS1 (As := [.int (iI v), .int (iI 0), .int (iI 3)]) (st := []) dX8_isSheet_3 lk_X8_54 (c_within E _ (by unfold rg; omega) (by unfold rg; omega) (by unfold rg; omega)) (by decide) rfl rfl (Nat.le_of_ble_eq_true rfl) ?_
  exact T.zret dX8_isSheet_6 (narZ (bZ_01 _)) ⟨by first | rfl | (congr 3; exact bZ_iff (by omega)), rfl⟩
set_option maxHeartbeats 4000000 in
set_option maxRecDepth 100000 in
theorem c_isLane (E : Ev) (h : Hp) {v : Int} (hv : rg v) : CT E 2 mX8_isLane [.int (iI v)] h (some (.int (iI (bZ (0 ≤ v ∧ v ≤ 2))))) h := by
  refine CT.go okX8_isLane (Nat.le_of_ble_eq_true rfl) ?_
  show T E 2 mX8_isLane 0 [some (.int (iI v))] [] h _
  unfold rg at hv
  refine T.iload_n dX8_isLane_0 rfl ?_
  refine T.iconst dX8_isLane_1 ?_
  refine T.iconst dX8_isLane_2 ?_
  refine T.cS1 (As := [.int (iI v), .int (iI 0), .int (iI 2)]) (st := []) dX8_isLane_3 lk_X8_54 (c_within E _ (by unfold rg; omega) (by unfold rg; omega) (by unfold rg; omega)) (by decide) rfl rfl (Nat.le_of_ble_eq_true rfl) ?_
  exact T.zret dX8_isLane_6 (narZ (bZ_01 _)) ⟨by first | rfl | (congr 3; exact bZ_iff (by omega)), rfl⟩
set_option maxHeartbeats 4000000 in
set_option maxRecDepth 100000 in
theorem c_isPayable (E : Ev) (h : Hp) {v a : Int} (hv : rg v) (ha : rg a) : CT E 3 mX8_isPayable [.int (iI v), .int (iI a)] h (some (.int (iI (bZ ((0 ≤ v ∧ v ≤ 299) ∧ 1 ≤ a ∧ a ≤ 9999))))) h := by
  refine CT.go okX8_isPayable (Nat.le_of_ble_eq_true rfl) ?_
  show T E 3 mX8_isPayable 0 [some (.int (iI v)), some (.int (iI a))] [] h _
  unfold rg at hv ha
  refine T.iload_n dX8_isPayable_0 rfl ?_
  refine T.cS1 (As := [.int (iI v)]) (st := []) dX8_isPayable_1 lk_X8_58 (c_isDay E _ (by unfold rg; omega)) (by decide) rfl rfl (Nat.le_of_ble_eq_true rfl) ?_
  refine T.ifB_eq 22 dX8_isPayable_4 (fun c1 => ?_) (fun c1 => ?_)
  · refine T.iconst dX8_isPayable_22 ?_
    exact T.zret dX8_isPayable_23 (narZ (Or.inl rfl)) ⟨by rw [bZ_f (by omega)], rfl⟩
  · refine T.iload_n dX8_isPayable_7 rfl ?_
    refine T.iconst dX8_isPayable_8 ?_
    refine T.sipush dX8_isPayable_9 ?_
    refine T.cS1 (As := [.int (iI a), .int (iI 1), .int (iI 9999)]) (st := []) dX8_isPayable_12 lk_X8_54 (c_within E _ (by unfold rg; omega) (by unfold rg; omega) (by unfold rg; omega)) (by decide) rfl rfl (Nat.le_of_ble_eq_true rfl) ?_
    refine T.ifB_eq 22 dX8_isPayable_15 (fun c2 => ?_) (fun c2 => ?_)
    · refine T.iconst dX8_isPayable_22 ?_
      exact T.zret dX8_isPayable_23 (narZ (Or.inl rfl)) ⟨by rw [bZ_f (by omega)], rfl⟩
    · refine T.iconst dX8_isPayable_18 ?_
      refine T.goto 23 dX8_isPayable_19 ?_
      exact T.zret dX8_isPayable_23 (narZ (Or.inr rfl)) ⟨by rw [bZ_t (by omega)], rfl⟩
def cOpen (m : Mem) (j : Nat) (d : Int) : Prop := 0 ≤ d ∧ d < m 1 (2 + j) 0 1 ∧ m 5 (2 + j) d.toNat 1 ≤ m 10 j 0 2 ∧ 0 < m 11 j 0 d.toNat + m 12 j 0 d.toNat
set_option maxHeartbeats 4000000 in
set_option maxRecDepth 100000 in
theorem c_isOpen (E : Ev) (m : Mem) (j : Nat) {d : Int} (hj : j < 6) (hd : rg d) (hI : Inv m) : CT E 1 mX1_isOpen [rf E 10 j 0, .int (iI d)] (hp E m) (some (.int (iI (bZ (cOpen m j d))))) (hp E m) := by
  refine CT.go okX1_isOpen (Nat.le_of_ble_eq_true rfl) ?_
  show T E 1 mX1_isOpen 0 [some (rf E 10 j 0), some (.int (iI d))] [] (hp E m) _
  unfold rg at hd
  refine T.iload_n dX1_isOpen_0 rfl ?_
  refine T.if_lt 56 dX1_isOpen_1 (by unfold rg; omega) (fun c1 => ?_) (fun c1 => ?_)
  · refine T.iconst dX1_isOpen_56 ?_
    exact T.zret dX1_isOpen_57 (narZ (Or.inl rfl)) ⟨by rw [bZ_f (by unfold cOpen; omega)], rfl⟩
  · refine T.iload_n dX1_isOpen_4 rfl ?_
    refine T.aload_n dX1_isOpen_5 rfl ?_
    refine T.mget (v := rf E 1 (2 + j) 0) dX1_isOpen_6 fo_X1_12 (ok10 (by omega)) rfl rfl ?_
    refine T.gI (z := m 1 (2 + j) 0 1) dX1_isOpen_9 fo_X1_77 (ok1 (by omega)) rfl rfl rfl ?_
    have q2 : 0 ≤ m 1 (2 + j) 0 1 ∧ m 1 (2 + j) 0 1 ≤ 8 := hI 1 (2 + j) 0 1
    refine T.icmp_ge 56 dX1_isOpen_12 (by unfold rg; omega) (by unfold rg; omega) (fun c3 => ?_) (fun c3 => ?_)
    · refine T.iconst dX1_isOpen_56 ?_
      exact T.zret dX1_isOpen_57 (narZ (Or.inl rfl)) ⟨by rw [bZ_f (by unfold cOpen; omega)], rfl⟩
    · refine T.aload_n dX1_isOpen_15 rfl ?_
      refine T.mget (v := rf E 1 (2 + j) 0) dX1_isOpen_16 fo_X1_12 (ok10 (by omega)) rfl rfl ?_
      refine T.mget (v := rf E 2 (2 + j) 0) dX1_isOpen_19 fo_X1_80 (ok1 (by omega)) rfl rfl ?_
      refine T.iload_n dX1_isOpen_22 rfl ?_
      refine T.mald (C := RX2) (x := d.toNat) dX1_isOpen_23 (ok2 (by omega)) (fun _ => rfl) rfl (by omega) (by omega) ?_
      refine T.gI (z := m 5 (2 + j) d.toNat 1) dX1_isOpen_24 fo_X1_130 (ok5 (by omega) (by omega)) rfl rfl rfl ?_
      have q4 : 0 ≤ m 5 (2 + j) d.toNat 1 ∧ m 5 (2 + j) d.toNat 1 ≤ 299 := hI 5 (2 + j) d.toNat 1
      refine T.aload_n dX1_isOpen_27 rfl ?_
      refine T.gI (z := m 10 j 0 2) dX1_isOpen_28 fo_X1_25 (ok10 (by omega)) rfl rfl rfl ?_
      have q5 : 0 ≤ m 10 j 0 2 ∧ m 10 j 0 2 ≤ 299 := hI 10 j 0 2
      refine T.icmp_gt 56 dX1_isOpen_31 (by unfold rg; omega) (by unfold rg; omega) (fun c6 => ?_) (fun c6 => ?_)
      · refine T.iconst dX1_isOpen_56 ?_
        exact T.zret dX1_isOpen_57 (narZ (Or.inl rfl)) ⟨by rw [bZ_f (by unfold cOpen; omega)], rfl⟩
      · refine T.aload_n dX1_isOpen_34 rfl ?_
        refine T.mget (v := rf E 11 j 0) dX1_isOpen_35 fo_X1_32 (ok10 (by omega)) rfl rfl ?_
        refine T.iload_n dX1_isOpen_38 rfl ?_
        refine T.aL (z := m 11 j 0 d.toNat) (x := d.toNat) dX1_isOpen_39 (ok11 (by omega)) (fun _ => rfl) (by omega) (by omega) rfl ?_
        have q7 : 0 ≤ m 11 j 0 d.toNat ∧ m 11 j 0 d.toNat ≤ 99990000 := hI 11 j 0 d.toNat
        refine T.aload_n dX1_isOpen_40 rfl ?_
        refine T.mget (v := rf E 12 j 0) dX1_isOpen_41 fo_X1_36 (ok10 (by omega)) rfl rfl ?_
        refine T.iload_n dX1_isOpen_44 rfl ?_
        refine T.aL (z := m 12 j 0 d.toNat) (x := d.toNat) dX1_isOpen_45 (ok12 (by omega)) (fun _ => rfl) (by omega) (by omega) rfl ?_
        have q8 : 0 ≤ m 12 j 0 d.toNat ∧ m 12 j 0 d.toNat ≤ 4000000000 := hI 12 j 0 d.toNat
        refine T.ladd dX1_isOpen_46 ?_
        refine T.lconst0 dX1_isOpen_47 ?_
        refine T.lcmp_le 56 dX1_isOpen_48 dX1_isOpen_49 (by unfold rl; omega) (by unfold rl; omega) (fun c9 => ?_) (fun c9 => ?_)
        · refine T.iconst dX1_isOpen_56 ?_
          exact T.zret dX1_isOpen_57 (narZ (Or.inl rfl)) ⟨by rw [bZ_f (by unfold cOpen; omega)], rfl⟩
        · refine T.iconst dX1_isOpen_52 ?_
          refine T.goto 57 dX1_isOpen_53 ?_
          exact T.zret dX1_isOpen_57 (narZ (Or.inr rfl)) ⟨by rw [bZ_t (by unfold cOpen; omega)], rfl⟩
set_option maxHeartbeats 4000000 in
set_option maxRecDepth 100000 in
theorem c_sumLeft (E : Ev) (m : Mem) (j d : Nat) (hj : j < 6) (hd : d < 8) (hI : Inv m) : CT E 1 mX1_sumLeft [rf E 10 j 0, .int (iI (d : Int))] (hp E m) (some (.long (lI (if m 5 (2 + j) d 1 ≤ m 10 j 0 2 then m 11 j 0 d else 0)))) (hp E m) := by
  refine CT.go okX1_sumLeft (Nat.le_of_ble_eq_true rfl) ?_
  show T E 1 mX1_sumLeft 0 [some (rf E 10 j 0), some (.int (iI (d : Int)))] [] (hp E m) _
  refine T.aload_n dX1_sumLeft_0 rfl ?_
  refine T.mget (v := rf E 1 (2 + j) 0) dX1_sumLeft_1 fo_X1_12 (ok10 (by omega)) rfl rfl ?_
  refine T.mget (v := rf E 2 (2 + j) 0) dX1_sumLeft_4 fo_X1_80 (ok1 (by omega)) rfl rfl ?_
  refine T.iload_n dX1_sumLeft_7 rfl ?_
  refine T.mald (C := RX2) (x := d) dX1_sumLeft_8 (ok2 (by omega)) (fun _ => rfl) rfl rfl (by omega) ?_
  refine T.gI (z := m 5 (2 + j) d 1) dX1_sumLeft_9 fo_X1_130 (ok5 (by omega) (by omega)) rfl rfl rfl ?_
  have q1 : 0 ≤ m 5 (2 + j) d 1 ∧ m 5 (2 + j) d 1 ≤ 299 := hI 5 (2 + j) d 1
  refine T.aload_n dX1_sumLeft_12 rfl ?_
  refine T.gI (z := m 10 j 0 2) dX1_sumLeft_13 fo_X1_25 (ok10 (by omega)) rfl rfl rfl ?_
  have q2 : 0 ≤ m 10 j 0 2 ∧ m 10 j 0 2 ≤ 299 := hI 10 j 0 2
  refine T.icmp_gt 28 dX1_sumLeft_16 (by unfold rg; omega) (by unfold rg; omega) (fun c3 => ?_) (fun c3 => ?_)
  · refine T.lconst0 dX1_sumLeft_28 ?_
    exact T.lret dX1_sumLeft_29 ⟨by first | rw [if_pos (by omega)] | rw [if_neg (by omega)], rfl⟩
  · refine T.aload_n dX1_sumLeft_19 rfl ?_
    refine T.mget (v := rf E 11 j 0) dX1_sumLeft_20 fo_X1_32 (ok10 (by omega)) rfl rfl ?_
    refine T.iload_n dX1_sumLeft_23 rfl ?_
    refine T.aL (z := m 11 j 0 d) (x := d) dX1_sumLeft_24 (ok11 (by omega)) (fun _ => rfl) rfl (by omega) rfl ?_
    have q4 : 0 ≤ m 11 j 0 d ∧ m 11 j 0 d ≤ 99990000 := hI 11 j 0 d
    refine T.goto 29 dX1_sumLeft_25 ?_
    exact T.lret dX1_sumLeft_29 ⟨by first | rw [if_pos (by omega)] | rw [if_neg (by omega)], rfl⟩
set_option maxHeartbeats 4000000 in
set_option maxRecDepth 100000 in
theorem c_runLeft (E : Ev) (m : Mem) (j d : Nat) (hj : j < 6) (hd : d < 8) (hI : Inv m) : CT E 1 mX1_runLeft [rf E 10 j 0, .int (iI (d : Int))] (hp E m) (some (.long (lI (if m 5 (2 + j) d 1 ≤ m 10 j 0 2 then m 12 j 0 d else 0)))) (hp E m) := by
  refine CT.go okX1_runLeft (Nat.le_of_ble_eq_true rfl) ?_
  show T E 1 mX1_runLeft 0 [some (rf E 10 j 0), some (.int (iI (d : Int)))] [] (hp E m) _
  refine T.aload_n dX1_runLeft_0 rfl ?_
  refine T.mget (v := rf E 1 (2 + j) 0) dX1_runLeft_1 fo_X1_12 (ok10 (by omega)) rfl rfl ?_
  refine T.mget (v := rf E 2 (2 + j) 0) dX1_runLeft_4 fo_X1_80 (ok1 (by omega)) rfl rfl ?_
  refine T.iload_n dX1_runLeft_7 rfl ?_
  refine T.mald (C := RX2) (x := d) dX1_runLeft_8 (ok2 (by omega)) (fun _ => rfl) rfl rfl (by omega) ?_
  refine T.gI (z := m 5 (2 + j) d 1) dX1_runLeft_9 fo_X1_130 (ok5 (by omega) (by omega)) rfl rfl rfl ?_
  have q1 : 0 ≤ m 5 (2 + j) d 1 ∧ m 5 (2 + j) d 1 ≤ 299 := hI 5 (2 + j) d 1
  refine T.aload_n dX1_runLeft_12 rfl ?_
  refine T.gI (z := m 10 j 0 2) dX1_runLeft_13 fo_X1_25 (ok10 (by omega)) rfl rfl rfl ?_
  have q2 : 0 ≤ m 10 j 0 2 ∧ m 10 j 0 2 ≤ 299 := hI 10 j 0 2
  refine T.icmp_gt 28 dX1_runLeft_16 (by unfold rg; omega) (by unfold rg; omega) (fun c3 => ?_) (fun c3 => ?_)
  · refine T.lconst0 dX1_runLeft_28 ?_
    exact T.lret dX1_runLeft_29 ⟨by first | rw [if_pos (by omega)] | rw [if_neg (by omega)], rfl⟩
  · refine T.aload_n dX1_runLeft_19 rfl ?_
    refine T.mget (v := rf E 12 j 0) dX1_runLeft_20 fo_X1_36 (ok10 (by omega)) rfl rfl ?_
    refine T.iload_n dX1_runLeft_23 rfl ?_
    refine T.aL (z := m 12 j 0 d) (x := d) dX1_runLeft_24 (ok12 (by omega)) (fun _ => rfl) rfl (by omega) rfl ?_
    have q4 : 0 ≤ m 12 j 0 d ∧ m 12 j 0 d ≤ 4000000000 := hI 12 j 0 d
    refine T.goto 29 dX1_runLeft_25 ?_
    exact T.lret dX1_runLeft_29 ⟨by first | rw [if_pos (by omega)] | rw [if_neg (by omega)], rfl⟩
def cLeft (m : Mem) (j d : Nat) : Int := if m 5 (2 + j) d 1 ≤ m 10 j 0 2 then m 11 j 0 d + m 12 j 0 d else 0
set_option maxHeartbeats 4000000 in
set_option maxRecDepth 100000 in
theorem c_leftOf (E : Ev) (m : Mem) (j d : Nat) (hj : j < 6) (hd : d < 8) (hI : Inv m) : CT E 2 mX1_leftOf [rf E 10 j 0, .int (iI (d : Int))] (hp E m) (some (.long (lI (cLeft m j d)))) (hp E m) := by
  refine CT.go okX1_leftOf (Nat.le_of_ble_eq_true rfl) ?_
  show T E 2 mX1_leftOf 0 [some (rf E 10 j 0), some (.int (iI (d : Int)))] [] (hp E m) _
  refine T.aload_n dX1_leftOf_0 rfl ?_
  refine T.iload_n dX1_leftOf_1 rfl ?_
  refine T.cV1 (As := [.int (iI (d : Int))]) (st := []) dX1_leftOf_2 lk_X1_146 (c_sumLeft E m j d hj hd hI) (ok10 (by omega)) rfl rfl (by decide) rfl rfl (Nat.le_of_ble_eq_true rfl) ?_
  refine T.aload_n dX1_leftOf_5 rfl ?_
  refine T.iload_n dX1_leftOf_6 rfl ?_
  refine T.cV1 (As := [.int (iI (d : Int))]) (st := [.long (lI (if m 5 (2 + j) d 1 ≤ m 10 j 0 2 then m 11 j 0 d else 0))]) dX1_leftOf_7 lk_X1_150 (c_runLeft E m j d hj hd hI) (ok10 (by omega)) rfl rfl (by decide) rfl rfl (Nat.le_of_ble_eq_true rfl) ?_
  refine T.ladd dX1_leftOf_10 ?_
  exact T.lret dX1_leftOf_11 ⟨by unfold cLeft; split <;> simp, rfl⟩
