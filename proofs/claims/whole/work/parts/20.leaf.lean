set_option maxHeartbeats 4000000 in
set_option maxRecDepth 100000 in
theorem c_within (E : Ev) (h : Hp) {v a b : Int} (hv : rg v) (ha : rg a) (hb : rg b) : CT E 1 mX8_within [.int (iI v), .int (iI a), .int (iI b)] h (some (.int (iI (bZ (a ≤ v ∧ v ≤ b))))) h := by
  refine CT.go okX8_within (Nat.le_of_ble_eq_true rfl) ?_
  show T E 1 mX8_within 0 [some (.int (iI v)), some (.int (iI a)), some (.int (iI b))] [] h _
  unfold rg at hv ha hb
  refine T.iload_n dX8_within_0 rfl ?_
  refine T.iload_n dX8_within_1 rfl ?_
  refine T.icmp_lt 14 dX8_within_2 (by unfold rg; omega) (by unfold rg; omega) (fun c1 => ?_) (fun c1 => ?_)
  · refine T.iconst dX8_within_14 ?_
    exact T.zret dX8_within_15 (narZ (Or.inl rfl)) ⟨by rw [bZ_f (by omega)], rfl⟩
  · refine T.iload_n dX8_within_5 rfl ?_
    refine T.iload_n dX8_within_6 rfl ?_
    refine T.icmp_gt 14 dX8_within_7 (by unfold rg; omega) (by unfold rg; omega) (fun c2 => ?_) (fun c2 => ?_)
    · refine T.iconst dX8_within_14 ?_
      exact T.zret dX8_within_15 (narZ (Or.inl rfl)) ⟨by rw [bZ_f (by omega)], rfl⟩
    · refine T.iconst dX8_within_10 ?_
      refine T.goto 15 dX8_within_11 ?_
      exact T.zret dX8_within_15 (narZ (Or.inr rfl)) ⟨by rw [bZ_t (by omega)], rfl⟩
set_option maxHeartbeats 4000000 in
set_option maxRecDepth 100000 in
theorem c_isDay (E : Ev) (h : Hp) {v : Int} (hv : rg v) : CT E 2 mX8_isDay [.int (iI v)] h (some (.int (iI (bZ (0 ≤ v ∧ v ≤ 299))))) h := by
  refine CT.go okX8_isDay (Nat.le_of_ble_eq_true rfl) ?_
  show T E 2 mX8_isDay 0 [some (.int (iI v))] [] h _
  unfold rg at hv
  refine T.iload_n dX8_isDay_0 rfl ?_
  refine T.iconst dX8_isDay_1 ?_
  refine T.sipush dX8_isDay_2 ?_
  refine T.cS1 (As := [.int (iI v), .int (iI 0), .int (iI 299)]) (st := []) dX8_isDay_5 lk_X8_54 (c_within E _ (by unfold rg; omega) (by unfold rg; omega) (by unfold rg; omega)) (by decide) rfl rfl (Nat.le_of_ble_eq_true rfl) ?_
  exact T.zret dX8_isDay_8 (narZ (bZ_01 _)) ⟨by first | rfl | (congr 3; exact bZ_iff (by omega)), rfl⟩
set_option maxHeartbeats 4000000 in
set_option maxRecDepth 100000 in
theorem c_isLaw (E : Ev) (h : Hp) {v : Int} (hv : rg v) : CT E 2 mX8_isLaw [.int (iI v)] h (some (.int (iI (bZ (0 ≤ v ∧ v ≤ 1))))) h := by
  refine CT.go okX8_isLaw (Nat.le_of_ble_eq_true rfl) ?_
  show T E 2 mX8_isLaw 0 [some (.int (iI v))] [] h _
  unfold rg at hv
  refine T.iload_n dX8_isLaw_0 rfl ?_
  refine T.iconst dX8_isLaw_1 ?_
  refine T.iconst dX8_isLaw_2 ?_
  refine T.cS1 (As := [.int (iI v), .int (iI 0), .int (iI 1)]) (st := []) dX8_isLaw_3 lk_X8_54 (c_within E _ (by unfold rg; omega) (by unfold rg; omega) (by unfold rg; omega)) (by decide) rfl rfl (Nat.le_of_ble_eq_true rfl) ?_
  exact T.zret dX8_isLaw_6 (narZ (bZ_01 _)) ⟨by first | rfl | (congr 3; exact bZ_iff (by omega)), rfl⟩
set_option maxHeartbeats 4000000 in
set_option maxRecDepth 100000 in
theorem c_isSheet (E : Ev) (h : Hp) {v : Int} (hv : rg v) : CT E 2 mX8_isSheet [.int (iI v)] h (some (.int (iI (bZ (0 ≤ v ∧ v ≤ 3))))) h := by
  refine CT.go okX8_isSheet (Nat.le_of_ble_eq_true rfl) ?_
  show T E 2 mX8_isSheet 0 [some (.int (iI v))] [] h _
  unfold rg at hv
  refine T.iload_n dX8_isSheet_0 rfl ?_
  refine T.iconst dX8_isSheet_1 ?_
  refine T.iconst dX8_isSheet_2 ?_
  refine T.cS1 (As := [.int (iI v), .int (iI 0), .int (iI 3)]) (st := []) dX8_isSheet_3 lk_X8_54 (c_within E _ (by unfold rg; omega) (by unfold rg; omega) (by unfold rg; omega)) (by decide) rfl rfl (Nat.le_of_ble_eq_true rfl) ?_
  exact T.zret dX8_isSheet_6 (narZ (bZ_01 _)) ⟨by first | rfl | (congr 3; exact bZ_iff (by omega)), rfl⟩
set_option maxHeartbeats 4000000 in
set_option maxRecDepth 100000 in
theorem c_isLane (E : Ev) (h : Hp) {v : Int} (hv : rg v) : CT E 2 mX8_isLane [.int (iI v)] h (some (.int (iI (bZ (0 ≤ v ∧ v ≤ 2))))) h := by
  refine CT.go okX8_isLane (Nat.le_of_ble_eq_true rfl) ?_
  show T E 2 mX8_isLane 0 [some (.int (iI v))] [] h _
  unfold rg at hv
  refine T.iload_n dX8_isLane_0 rfl ?_
  refine T.iconst dX8_isLane_1 ?_
  refine T.iconst dX8_isLane_2 ?_
  refine T.cS1 (As := [.int (iI v), .int (iI 0), .int (iI 2)]) (st := []) dX8_isLane_3 lk_X8_54 (c_within E _ (by unfold rg; omega) (by unfold rg; omega) (by unfold rg; omega)) (by decide) rfl rfl (Nat.le_of_ble_eq_true rfl) ?_
  exact T.zret dX8_isLane_6 (narZ (bZ_01 _)) ⟨by first | rfl | (congr 3; exact bZ_iff (by omega)), rfl⟩
set_option maxHeartbeats 4000000 in
set_option maxRecDepth 100000 in
theorem c_isPayable (E : Ev) (h : Hp) {v a : Int} (hv : rg v) (ha : rg a) : CT E 3 mX8_isPayable [.int (iI v), .int (iI a)] h (some (.int (iI (bZ ((0 ≤ v ∧ v ≤ 299) ∧ 1 ≤ a ∧ a ≤ 9999))))) h := by
  refine CT.go okX8_isPayable (Nat.le_of_ble_eq_true rfl) ?_
  show T E 3 mX8_isPayable 0 [some (.int (iI v)), some (.int (iI a))] [] h _
  unfold rg at hv ha
  refine T.iload_n dX8_isPayable_0 rfl ?_
  refine T.cS1 (As := [.int (iI v)]) (st := []) dX8_isPayable_1 lk_X8_58 (c_isDay E _ (by unfold rg; omega)) (by decide) rfl rfl (Nat.le_of_ble_eq_true rfl) ?_
  refine T.ifB_eq 22 dX8_isPayable_4 (fun c1 => ?_) (fun c1 => ?_)
  · refine T.iconst dX8_isPayable_22 ?_
    exact T.zret dX8_isPayable_23 (narZ (Or.inl rfl)) ⟨by rw [bZ_f (by omega)], rfl⟩
  · refine T.iload_n dX8_isPayable_7 rfl ?_
    refine T.iconst dX8_isPayable_8 ?_
    refine T.sipush dX8_isPayable_9 ?_
    refine T.cS1 (As := [.int (iI a), .int (iI 1), .int (iI 9999)]) (st := []) dX8_isPayable_12 lk_X8_54 (c_within E _ (by unfold rg; omega) (by unfold rg; omega) (by unfold rg; omega)) (by decide) rfl rfl (Nat.le_of_ble_eq_true rfl) ?_
    refine T.ifB_eq 22 dX8_isPayable_15 (fun c2 => ?_) (fun c2 => ?_)
    · refine T.iconst dX8_isPayable_22 ?_
      exact T.zret dX8_isPayable_23 (narZ (Or.inl rfl)) ⟨by rw [bZ_f (by omega)], rfl⟩
    · refine T.iconst dX8_isPayable_18 ?_
      refine T.goto 23 dX8_isPayable_19 ?_
      exact T.zret dX8_isPayable_23 (narZ (Or.inr rfl)) ⟨by rw [bZ_t (by omega)], rfl⟩
set_option maxHeartbeats 4000000 in
set_option maxRecDepth 100000 in
theorem c_cmpi (E : Ev) (h : Hp) {a b : Int} (ha : rg a) (hb : rg b) : CT E 1 mJ6_compare_7cf53 [.int (iI a), .int (iI b)] h (some (.int (iI (sg a b)))) h := by
  refine CT.go okJ6_compare_7cf53 (Nat.le_of_ble_eq_true rfl) ?_
  show T E 1 mJ6_compare_7cf53 0 [some (.int (iI a)), some (.int (iI b))] [] h _
  unfold rg at ha hb
  refine T.iload_n dJ6_compare_7cf53_0 rfl ?_
  refine T.iload_n dJ6_compare_7cf53_1 rfl ?_
  refine T.icmp_ge 9 dJ6_compare_7cf53_2 (by unfold rg; omega) (by unfold rg; omega) (fun c1 => ?_) (fun c1 => ?_)
  · refine T.iload_n dJ6_compare_7cf53_9 rfl ?_
    refine T.iload_n dJ6_compare_7cf53_10 rfl ?_
    refine T.icmp_ne 18 dJ6_compare_7cf53_11 (by unfold rg; omega) (by unfold rg; omega) (fun c2 => ?_) (fun c2 => ?_)
    · refine T.iconst dJ6_compare_7cf53_18 ?_
      exact T.iret dJ6_compare_7cf53_19 ⟨by congr 3; unfold sg; (repeat split) <;> omega, rfl⟩
    · refine T.iconst dJ6_compare_7cf53_14 ?_
      refine T.goto 19 dJ6_compare_7cf53_15 ?_
      exact T.iret dJ6_compare_7cf53_19 ⟨by congr 3; unfold sg; (repeat split) <;> omega, rfl⟩
  · refine T.iconst dJ6_compare_7cf53_5 ?_
    refine T.goto 19 dJ6_compare_7cf53_6 ?_
    exact T.iret dJ6_compare_7cf53_19 ⟨by congr 3; unfold sg; (repeat split) <;> omega, rfl⟩
set_option maxHeartbeats 4000000 in
set_option maxRecDepth 100000 in
theorem c_cmpl (E : Ev) (h : Hp) {a b : Int} (ha : rl a) (hb : rl b) : CT E 1 mJ13_compare_74951 [.long (lI a), .long (lI b)] h (some (.int (iI (sg a b)))) h := by
  refine CT.go okJ13_compare_74951 (Nat.le_of_ble_eq_true rfl) ?_
  show T E 1 mJ13_compare_74951 0 [some (.long (lI a)), none, some (.long (lI b)), none] [] h _
  unfold rl at ha hb
  refine T.lload_n dJ13_compare_74951_0 rfl ?_
  refine T.lload_n dJ13_compare_74951_1 rfl ?_
  refine T.lcmp_ge 10 dJ13_compare_74951_2 dJ13_compare_74951_3 (by unfold rl; omega) (by unfold rl; omega) (fun c1 => ?_) (fun c1 => ?_)
  · refine T.lload_n dJ13_compare_74951_10 rfl ?_
    refine T.lload_n dJ13_compare_74951_11 rfl ?_
    refine T.lcmp_ne 20 dJ13_compare_74951_12 dJ13_compare_74951_13 (by unfold rl; omega) (by unfold rl; omega) (fun c2 => ?_) (fun c2 => ?_)
    · refine T.iconst dJ13_compare_74951_20 ?_
      exact T.iret dJ13_compare_74951_21 ⟨by congr 3; unfold sg; (repeat split) <;> omega, rfl⟩
    · refine T.iconst dJ13_compare_74951_16 ?_
      refine T.goto 21 dJ13_compare_74951_17 ?_
      exact T.iret dJ13_compare_74951_21 ⟨by congr 3; unfold sg; (repeat split) <;> omega, rfl⟩
  · refine T.iconst dJ13_compare_74951_6 ?_
    refine T.goto 21 dJ13_compare_74951_7 ?_
    exact T.iret dJ13_compare_74951_21 ⟨by congr 3; unfold sg; (repeat split) <;> omega, rfl⟩
set_option maxHeartbeats 4000000 in
set_option maxRecDepth 100000 in
theorem c_firstIf (E : Ev) (h : Hp) {a b : Int} (h1 : a = 0 ∨ a = 1) (h2 : b = 0 ∨ b = 1) : CT E 1 mX1_firstIf [.int (iI a), .int (iI b)] h (some (.int (iI (sg b a)))) h := by
  refine CT.go okX1_firstIf (Nat.le_of_ble_eq_true rfl) ?_
  show T E 1 mX1_firstIf 0 [some (.int (iI a)), some (.int (iI b))] [] h _
  refine T.iload_n dX1_firstIf_0 rfl ?_
  refine T.iload_n dX1_firstIf_1 rfl ?_
  refine T.icmp_ne 9 dX1_firstIf_2 (by unfold rg; omega) (by unfold rg; omega) (fun c1 => ?_) (fun c1 => ?_)
  · refine T.iload_n dX1_firstIf_9 rfl ?_
    refine T.if_eq 17 dX1_firstIf_10 (by unfold rg; omega) (fun c2 => ?_) (fun c2 => ?_)
    · refine T.iconst dX1_firstIf_17 ?_
      exact T.iret dX1_firstIf_18 ⟨by congr 3; unfold sg; (repeat split) <;> omega, rfl⟩
    · refine T.iconst dX1_firstIf_13 ?_
      refine T.goto 18 dX1_firstIf_14 ?_
      exact T.iret dX1_firstIf_18 ⟨by congr 3; unfold sg; (repeat split) <;> omega, rfl⟩
  · refine T.iconst dX1_firstIf_5 ?_
    refine T.goto 18 dX1_firstIf_6 ?_
    exact T.iret dX1_firstIf_18 ⟨by congr 3; unfold sg; (repeat split) <;> omega, rfl⟩
theorem sm32 : ∀ k : Nat, k < 26 → ((iI k &&& 31).toBitVec.smod 32).toNat = k := by decide +kernel
theorem iI_nI (n : Nat) : iI (n : Int) = nI n := by unfold iI nI; exact Int32.ofInt_eq_ofNat
theorem bit_at {z : Int} {k : Nat} (h0 : 0 ≤ z) (h1 : z < 67108864) (hk : k < 26) : (iI z >>> (iI k &&& 31)) &&& iI 1 = iI (z / 2 ^ k % 2) := by
  obtain ⟨n, rfl⟩ := Int.eq_ofNat_of_zero_le h0
  rw [iI_nI, pk_shrN (by omega) _ k (sm32 k hk), pk_andN (by have := Nat.div_le_self n (2 ^ k); omega) 1 (by decide), ← iI_nI]
  rfl
set_option maxHeartbeats 4000000 in
set_option maxRecDepth 100000 in
theorem c_has (E : Ev) (m : Mem) (q c : Nat) (hq : q < 22) (hc : 97 ≤ c ∧ c ≤ 122) (hI : Inv m) : CT E 1 mX3_has [rf E 8 q 0, .int (iI (c : Int))] (hp E m) (some (.int (iI (bZ (hasB (lw m q) c))))) (hp E m) := by
  refine CT.go okX3_has (Nat.le_of_ble_eq_true rfl) ?_
  show T E 1 mX3_has 0 [some (rf E 8 q 0), some (.int (iI (c : Int)))] [] (hp E m) _
  refine T.aload_n dX3_has_0 rfl ?_
  refine T.gI (z := m 8 q 0 2) dX3_has_1 fo_X3_19 (ok8 (by omega)) rfl rfl rfl ?_
  have q1 : 0 ≤ m 8 q 0 2 ∧ m 8 q 0 2 ≤ 67108863 := hI 8 q 0 2
  refine T.iload_n dX3_has_4 rfl ?_
  refine T.bipush dX3_has_5 ?_
  refine T.isub dX3_has_7 ?_
  refine T.ishr dX3_has_8 ?_
  refine T.iconst dX3_has_9 ?_
  refine T.iand dX3_has_10 ?_
  refine T.topi (z := m 8 q 0 2 / 2 ^ (c - 97) % 2) (by rw [show (c : Int) - 97 = ((c - 97 : Nat) : Int) by omega]; exact bit_at (by omega) (by omega) (by omega)) ?_
  have hb2 : 0 ≤ m 8 q 0 2 / 2 ^ (c - 97) % 2 ∧ m 8 q 0 2 / 2 ^ (c - 97) % 2 < 2 := ⟨Int.emod_nonneg _ (by decide), Int.emod_lt_of_pos _ (by decide)⟩
  refine T.if_eq 18 dX3_has_11 (by unfold rg; omega) (fun c2 => ?_) (fun c2 => ?_)
  · refine T.iconst dX3_has_18 ?_
    exact T.zret dX3_has_19 (narZ (Or.inl rfl)) ⟨by rw [bZ_f (by show ¬ (m 8 q 0 2 / 2 ^ (c - 97) % 2 = 1); omega)], rfl⟩
  · refine T.iconst dX3_has_14 ?_
    refine T.goto 19 dX3_has_15 ?_
    exact T.zret dX3_has_19 (narZ (Or.inr rfl)) ⟨by rw [bZ_t (by show m 8 q 0 2 / 2 ^ (c - 97) % 2 = 1; omega)], rfl⟩
set_option maxHeartbeats 4000000 in
set_option maxRecDepth 100000 in
theorem c_isSecured (E : Ev) (m : Mem) (b d : Nat) (hb : b < 8) (hd : d < 8) (hI : Inv m) : CT E 1 mX2_isSecured [rf E 5 b d] (hp E m) (some (.int (iI (bZ (0 ≤ m 6 b d 1 ∨ m 6 b d 2 = 1))))) (hp E m) := by
  refine CT.go okX2_isSecured (Nat.le_of_ble_eq_true rfl) ?_
  show T E 1 mX2_isSecured 0 [some (rf E 5 b d)] [] (hp E m) _
  refine T.aload_n dX2_isSecured_0 rfl ?_
  refine T.mget (v := rf E 6 b d) dX2_isSecured_1 fo_X2_9 (ok5 (by omega) (by omega)) rfl rfl ?_
  refine T.iconst dX2_isSecured_4 ?_
  refine T.aI (z := m 6 b d 1) (x := 1) dX2_isSecured_5 (ok6 (by omega) (by omega)) (fun _ => rfl) rfl (by decide) rfl ?_
  have q1 : -1 ≤ m 6 b d 1 ∧ m 6 b d 1 ≤ 5 := hI 6 b d 1
  refine T.if_ge 19 dX2_isSecured_6 (by unfold rg; omega) (fun c2 => ?_) (fun c2 => ?_)
  · refine T.iconst dX2_isSecured_19 ?_
    refine T.goto 24 dX2_isSecured_20 ?_
    exact T.zret dX2_isSecured_24 (narZ (Or.inr rfl)) ⟨by rw [bZ_t (by omega)], rfl⟩
  · refine T.aload_n dX2_isSecured_9 rfl ?_
    refine T.mget (v := rf E 6 b d) dX2_isSecured_10 fo_X2_9 (ok5 (by omega) (by omega)) rfl rfl ?_
    refine T.iconst dX2_isSecured_13 ?_
    refine T.aI (z := m 6 b d 2) (x := 2) dX2_isSecured_14 (ok6 (by omega) (by omega)) (fun _ => rfl) rfl (by decide) rfl ?_
    have q3 : 0 ≤ m 6 b d 2 ∧ m 6 b d 2 ≤ 1 := hI 6 b d 2
    refine T.iconst dX2_isSecured_15 ?_
    refine T.icmp_ne 23 dX2_isSecured_16 (by unfold rg; omega) (by unfold rg; omega) (fun c4 => ?_) (fun c4 => ?_)
    · refine T.iconst dX2_isSecured_23 ?_
      exact T.zret dX2_isSecured_24 (narZ (Or.inl rfl)) ⟨by rw [bZ_f (by omega)], rfl⟩
    · refine T.iconst dX2_isSecured_19 ?_
      refine T.goto 24 dX2_isSecured_20 ?_
      exact T.zret dX2_isSecured_24 (narZ (Or.inr rfl)) ⟨by rw [bZ_t (by omega)], rfl⟩
