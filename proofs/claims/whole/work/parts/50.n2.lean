-- bytes of a long
def byN (w : Int64) (i : Nat) : Int := ((w.toBitVec.toNat / 2 ^ (8 * i) % 256 : Nat) : Int)
theorem byN_bd (w : Int64) (i : Nat) : 0 ≤ byN w i ∧ byN w i ≤ 255 := by unfold byN; omega
theorem b255_64 : ∀ j, j < 64 → (255#64).getLsbD j = decide (j < 8) := by decide +kernel
theorem b255_32 : ∀ j, j < 32 → (255#32).getLsbD j = decide (j < 8) := by decide +kernel
theorem bits_64 (x : BitVec 64) (s : Nat) (hs : s ≤ 56) : x.sshiftRight s &&& 255#64 = BitVec.ofNat 64 (x.toNat / 2 ^ s % 256) := by
  apply BitVec.eq_of_getLsbD_eq
  intro j hj
  rw [BitVec.getLsbD_and, b255_64 j hj, BitVec.getLsbD_sshiftRight, BitVec.getLsbD_ofNat, show (256 : Nat) = 2 ^ 8 from rfl, Nat.testBit_mod_two_pow, Nat.testBit_div_two_pow]
  by_cases h : j < 8
  · have h1 : s + j < 64 := by omega
    simp [h, h1, hj, BitVec.getLsbD, Nat.add_comm]
  · simp [h]
theorem bits_32 (x : BitVec 64) (s : Nat) (hs : s ≤ 56) : (x >>> s).signExtend 32 &&& 255#32 = BitVec.ofNat 32 (x.toNat / 2 ^ s % 256) := by
  apply BitVec.eq_of_getLsbD_eq
  intro j hj
  rw [BitVec.getLsbD_and, b255_32 j hj, BitVec.getLsbD_signExtend, BitVec.getLsbD_ushiftRight, BitVec.getLsbD_ofNat, show (256 : Nat) = 2 ^ 8 from rfl, Nat.testBit_mod_two_pow, Nat.testBit_div_two_pow]
  by_cases h : j < 8
  · have h1 : j < 64 := by omega
    simp [h, h1, hj, BitVec.getLsbD, Nat.add_comm]
  · simp [h]
theorem sm64 : ∀ i : Nat, i < 8 → (((iI (8 * (i : Int))).toInt64 &&& 63).toBitVec.smod 64).toNat = 8 * i := by decide +kernel
theorem um64 : ∀ i : Nat, i < 8 → (((iI (8 * (i : Int))).toInt64.toUInt64 &&& Int64.toUInt64 63).toBitVec % 64).toNat = 8 * i := by decide +kernel
theorem by_m {w : Int64} {i : Nat} (hi : i < 8) : (w >>> ((iI (8 * (i : Int))).toInt64 &&& 63)) &&& lI 255 = lI (byN w i) := by
  apply Int64.toBitVec_inj.mp
  rw [Int64.toBitVec_and, Int64.toBitVec_shiftRight, BitVec.sshiftRight', sm64 i hi]
  have h1 : (lI 255).toBitVec = 255#64 := by decide
  rw [h1, bits_64 _ _ (by omega)]
  show _ = (Int64.ofInt (byN w i)).toBitVec
  unfold byN
  rw [Int64.toBitVec_ofInt, BitVec.ofInt_natCast]
theorem by_c {w : Int64} {i : Nat} (hi : i < 8) : (w.toUInt64 >>> ((iI (8 * (i : Int))).toInt64.toUInt64 &&& Int64.toUInt64 63)).toInt64.toInt32 &&& iI 255 = iI (byN w i) := by
  apply Int32.toBitVec_inj.mp
  rw [Int32.toBitVec_and, Int64.toBitVec_toInt32]
  have h1 : (iI 255).toBitVec = 255#32 := by decide
  have h2 : (w.toUInt64 >>> ((iI (8 * (i : Int))).toInt64.toUInt64 &&& Int64.toUInt64 63)).toInt64.toBitVec = w.toBitVec >>> (8 * i) := by
    show (w.toUInt64 >>> ((iI (8 * (i : Int))).toInt64.toUInt64 &&& Int64.toUInt64 63)).toBitVec = _
    rw [UInt64.toBitVec_shiftRight, BitVec.ushiftRight_eq', um64 i hi]
    rfl
  rw [h1, h2, bits_32 _ _ (by omega)]
  show _ = (Int32.ofInt (byN w i)).toBitVec
  unfold byN
  rw [Int32.toBitVec_ofInt, BitVec.ofInt_natCast]
abbrev sgn (w : Int64) (i : Nat) : Prop := 32 ≤ byN w i ∧ byN w i ≤ 126
def sgB (w : Int64) : Nat → Bool
  | 0 => true
  | i + 1 => sgB w i && decide (sgn w i)
theorem sgB_iff {w : Int64} : ∀ n, sgB w n = true ↔ ∀ i, i < n → sgn w i
  | 0 => by simp [sgB]
  | n + 1 => by
    unfold sgB
    rw [Bool.and_eq_true, sgB_iff n, decide_eq_true_eq]
    constructor
    · rintro ⟨h1, h2⟩ i hi
      by_cases e : i = n
      · subst e; exact h2
      · exact h1 i (by omega)
    · intro h
      exact ⟨fun i hi => h i (by omega), h n (by omega)⟩
set_option maxHeartbeats 4000000 in
set_option maxRecDepth 100000 in
theorem c_byteOf (E : Ev) (h : Hp) (w : Int64) (i : Nat) (hi : i < 8) : CT E 1 mX8_byteOf [.long w, .int (iI (i : Int))] h (some (.int (iI (byN w i)))) h := by
  refine CT.go okX8_byteOf (Nat.le_of_ble_eq_true rfl) ?_
  show T E 1 mX8_byteOf 0 [some (.long w), none, some (.int (iI (i : Int)))] [] h _
  refine T.lload_n dX8_byteOf_0 rfl ?_
  refine T.bipush dX8_byteOf_1 ?_
  refine T.iload_n dX8_byteOf_3 rfl ?_
  refine T.imul dX8_byteOf_4 ?_
  refine T.lushr dX8_byteOf_5 ?_
  refine T.l2i dX8_byteOf_6 ?_
  refine T.sipush dX8_byteOf_7 ?_
  refine T.iand dX8_byteOf_10 ?_
  refine T.topi (z := byN w i) (by_c hi) ?_
  exact T.iret dX8_byteOf_11 ⟨rfl, rfl⟩
set_option maxHeartbeats 4000000 in
set_option maxRecDepth 100000 in
theorem c_signs_lp (E : Ev) (h : Hp) (w : Int64) (n : Nat) (hn : n ≤ 8) : ∀ (k : Nat) (i : Nat), n - i = k → i ≤ n → sgB w i = true → T E 2 mX8_allSigns 2 [some (.long w), none, some (.int (iI (n : Int))), some (.int (iI (i : Int)))] [] h (fun r' h' => r' = some (.int (iI (bZ (sgB w n = true)))) ∧ h' = h) := by
  intro k
  induction k using Nat.strongRecOn with
  | ind k ih =>
    intro i hk hi hB
    refine T.iload_n dX8_allSigns_2 rfl ?_
    refine T.iload_n dX8_allSigns_3 rfl ?_
    refine T.icmp_ge 30 dX8_allSigns_4 (by unfold rg; omega) (by unfold rg; omega) (fun c1 => ?_) (fun c1 => ?_)
    · refine T.iconst dX8_allSigns_30 ?_
      exact T.zret dX8_allSigns_31 (narZ (Or.inr rfl)) ⟨by rw [bZ_t (by rw [show n = i from by omega]; exact hB)], rfl⟩
    · refine T.lload_n dX8_allSigns_7 rfl ?_
      refine T.iload_n dX8_allSigns_8 rfl ?_
      refine T.cS1 (As := [.long w, .int (iI (i : Int))]) (st := []) dX8_allSigns_9 lk_X8_145 (c_byteOf E _ w i (by omega)) (by decide) rfl rfl (Nat.le_of_ble_eq_true rfl) ?_
      have hby := byN_bd w i
      refine T.bipush dX8_allSigns_12 ?_
      refine T.bipush dX8_allSigns_14 ?_
      refine T.cS1 (As := [.int (iI (byN w i)), .int (iI 32), .int (iI 126)]) (st := []) dX8_allSigns_16 lk_X8_54 (c_within E _ (by unfold rg; omega) (by unfold rg; omega) (by unfold rg; omega)) (by decide) rfl rfl (Nat.le_of_ble_eq_true rfl) ?_
      refine T.ifB_ne 24 dX8_allSigns_19 (fun c2 => ?_) (fun c2 => ?_)
      · refine T.iinc (ls' := [some (.long w), none, some (.int (iI (n : Int))), some (.int (iI ((i : Int) + 1)))]) dX8_allSigns_24 rfl rfl ?_
        refine T.goto 2 dX8_allSigns_27 ?_
        exact ih (n - (i + 1)) (by omega) (i + 1) rfl (by omega) (by unfold sgB; rw [hB]; simpa using ‹32 ≤ byN w i ∧ byN w i ≤ 126›)
      · refine T.iconst dX8_allSigns_22 ?_
        exact T.zret dX8_allSigns_23 (narZ (Or.inl rfl)) ⟨by rw [bZ_f (fun z => by have := (sgB_iff n).mp z i (by omega); contradiction)], rfl⟩
set_option maxHeartbeats 4000000 in
set_option maxRecDepth 100000 in
theorem c_signs (E : Ev) (h : Hp) (w : Int64) (n : Nat) (hn : n ≤ 8) : CT E 2 mX8_allSigns [.long w, .int (iI (n : Int))] h (some (.int (iI (bZ (sgB w n = true))))) h := by
  refine CT.go okX8_allSigns (Nat.le_of_ble_eq_true rfl) ?_
  show T E 2 mX8_allSigns 0 [some (.long w), none, some (.int (iI (n : Int))), none] [] h _
  refine T.iconst dX8_allSigns_0 ?_
  refine T.istore_n (ls' := [some (.long w), none, some (.int (iI (n : Int))), some (.int (iI 0))]) dX8_allSigns_1 rfl ?_
  exact c_signs_lp E h w n hn _ 0 rfl (Nat.zero_le _) rfl
def apM (m : Mem) (b : Int) : Mem := up (up m 25 0 0 (m 24 0 0 1).toNat b) 24 0 0 1 (m 24 0 0 1 + 1)
set_option maxHeartbeats 4000000 in
set_option maxRecDepth 100000 in
theorem c_append (E : Ev) (m : Mem) (b : Int) (hI : Inv m) (hlt : m 24 0 0 1 < 40) : CT E 1 mX6_append [rf E 24 0 0, .int (iI b)] (hp E m) (none) (hp E (apM m b)) := by
  refine CT.go okX6_append (Nat.le_of_ble_eq_true rfl) ?_
  show T E 1 mX6_append 0 [some (rf E 24 0 0), some (.int (iI b))] [] (hp E m) _
  refine T.aload_n dX6_append_0 rfl ?_
  refine T.gI (z := m 24 0 0 1) dX6_append_1 fo_X6_15 ok24 rfl rfl rfl ?_
  have q1 : 0 ≤ m 24 0 0 1 ∧ m 24 0 0 1 ≤ 40 := hI 24 0 0 1
  refine T.bipush dX6_append_4 ?_
  refine T.icmp_ge 29 dX6_append_6 (by unfold rg; omega) (by unfold rg; omega) (fun c2 => ?_) (fun c2 => ?_)
  · exact absurd c2 (by omega)
  · refine T.aload_n dX6_append_9 rfl ?_
    refine T.mget (v := rf E 25 0 0) dX6_append_10 fo_X6_9 ok24 rfl rfl ?_
    refine T.aload_n dX6_append_13 rfl ?_
    refine T.gI (z := m 24 0 0 1) dX6_append_14 fo_X6_15 ok24 rfl rfl rfl ?_
    refine T.iload_n dX6_append_17 rfl ?_
    refine T.mist (x := (m 24 0 0 1).toNat) dX6_append_18 ok25 (fun _ => rfl) (by omega) (by omega) ?_
    refine T.aload_n dX6_append_19 rfl ?_
    refine T.dup dX6_append_20 ?_
    refine T.gI (z := m 24 0 0 1) dX6_append_21 fo_X6_15 ok24 rfl rfl rfl ?_
    refine T.iconst dX6_append_24 ?_
    refine T.iadd dX6_append_25 ?_
    refine T.mputI dX6_append_26 fp_X6_15 ok24 rfl rfl (Nat.le_of_ble_eq_true rfl) ?_
    exact T.vret dX6_append_29 ⟨rfl, rfl⟩
def typL (w : Int64) : Nat → Mem → Mem
  | 0, D => D
  | k + 1, D => typL w k (apM D (byN w k))
theorem apM_inv {m : Mem} {b : Int} (h : Inv m) (hb : 0 ≤ b ∧ b ≤ 127) (hl : m 24 0 0 1 < 40) : Inv (apM m b) := by
  have q : 0 ≤ m 24 0 0 1 ∧ m 24 0 0 1 ≤ 40 := h 24 0 0 1
  exact (h.up (by show 0 ≤ _ ∧ _ ≤ (127 : Int); omega)).up (by show 0 ≤ _ ∧ _ ≤ (40 : Int); omega)
theorem apM_n (m : Mem) (b : Int) : apM m b 24 0 0 1 = m 24 0 0 1 + 1 := up_self _ _ _ _ _ _
theorem typL_n (w : Int64) : ∀ (k : Nat) (D : Mem), typL w k D 24 0 0 1 = D 24 0 0 1 + k
  | 0, D => by simp [typL]
  | k + 1, D => by
    show typL w k (apM D (byN w k)) 24 0 0 1 = _
    rw [typL_n w k, apM_n]
    omega
theorem typL_inv {w : Int64} : ∀ (k : Nat) (D : Mem), Inv D → sgB w k = true → D 24 0 0 1 + k ≤ 40 → Inv (typL w k D)
  | 0, D, h, _, _ => h
  | k + 1, D, h, hB, hl => by
    have h1 := (sgB_iff (k + 1)).mp hB k (by omega)
    exact typL_inv k _ (apM_inv h (by omega) (by omega)) ((sgB_iff k).mpr (fun i hi => (sgB_iff (k + 1)).mp hB i (by omega))) (by rw [apM_n]; omega)
def typeR (m : Mem) (w : Int64) (n : Int) : Int := if ¬ ((1 ≤ n ∧ n ≤ 8) ∧ sgB w n.toNat = true) then -1 else if 40 - m 24 0 0 1 < n then -3 else m 24 0 0 1 + n
def typeM (m : Mem) (w : Int64) (n : Int) : Mem := if ¬ ((1 ≤ n ∧ n ≤ 8) ∧ sgB w n.toNat = true) then m else if 40 - m 24 0 0 1 < n then m else typL w n.toNat m
set_option maxHeartbeats 4000000 in
set_option maxRecDepth 100000 in
theorem c_type_lp (E : Ev) (w : Int64) : ∀ (k : Nat) (D : Mem), Inv D → sgB w k = true → D 24 0 0 1 + k ≤ 40 → k ≤ 8 → T E 4 mX8_type 42 [some (rf E 0 0 0), some (.long w), none, none, some (.int (iI ((k : Int) - 1)))] [] (hp E D) (fun r' h' => r' = some (.int (iI (D 24 0 0 1 + (k : Int)))) ∧ h' = hp E (typL w k D)) := by
  intro k
  induction k using Nat.strongRecOn with
  | ind k ih =>
    intro D hD hB hl hk8
    have q24 : 0 ≤ D 24 0 0 1 ∧ D 24 0 0 1 ≤ 40 := hD 24 0 0 1
    refine T.iload dX8_type_42 rfl ?_
    refine T.if_lt 66 dX8_type_44 (by unfold rg; omega) (fun c1 => ?_) (fun c1 => ?_)
    · refine T.aload_n dX8_type_66 rfl ?_
      refine T.mget (v := rf E 24 0 0) dX8_type_67 fo_X8_43 ok0 rfl rfl ?_
      refine T.gI (z := D 24 0 0 1) dX8_type_70 fo_X8_142 ok24 rfl rfl rfl ?_
      have q2 : 0 ≤ D 24 0 0 1 ∧ D 24 0 0 1 ≤ 40 := hD 24 0 0 1
      obtain rfl : k = 0 := by omega
      exact T.iret dX8_type_73 ⟨congrArg (fun z => some (Value.int (iI z))) (show D 24 0 0 1 = D 24 0 0 1 + ((0 : Nat) : Int) from by omega), rfl⟩
    · have hs1 := (sgB_iff k).mp hB (k - 1) (by omega)
      refine T.aload_n dX8_type_47 rfl ?_
      refine T.mget (v := rf E 24 0 0) dX8_type_48 fo_X8_43 ok0 rfl rfl ?_
      refine T.lload_n dX8_type_51 rfl ?_
      refine T.iload dX8_type_52 rfl ?_
      refine T.cS1 (As := [.long w, .int (iI ((k : Int) - 1))]) (st := [rf E 24 0 0]) dX8_type_54 lk_X8_145 (by have h0 := c_byteOf E (hp E D) w (k - 1) (by omega); rw [show (((k - 1 : Nat) : Nat) : Int) = (k : Int) - 1 from by omega] at h0; exact h0) (by decide) rfl rfl (Nat.le_of_ble_eq_true rfl) ?_
      refine T.cV0 (As := [.int (iI (byN w (k - 1)))]) (st := []) dX8_type_57 lk_X8_149 (c_append E D (byN w (k - 1)) hD (by omega)) ok24 rfl rfl (by decide) rfl rfl (Nat.le_of_ble_eq_true rfl) ?_
      refine T.iinc (ls' := [some (rf E 0 0 0), some (.long w), none, none, some (.int (iI ((k : Int) - 1 + (-1))))]) dX8_type_60 rfl rfl ?_
      refine T.goto 42 dX8_type_63 ?_
      rw [show typL w k D = typL w (k - 1) (apM D (byN w (k - 1))) from by obtain ⟨j, rfl⟩ : ∃ j, k = j + 1 := ⟨k - 1, by omega⟩; rfl, show D 24 0 0 1 + (k : Int) = apM D (byN w (k - 1)) 24 0 0 1 + ((k - 1 : Nat) : Int) from by rw [apM_n]; omega, show (k : Int) - 1 + (-1) = ((k - 1 : Nat) : Int) - 1 from by omega]
      exact ih (k - 1) (by omega) (apM D (byN w (k - 1))) (apM_inv hD (by omega) (by omega)) ((sgB_iff _).mpr (fun i hi => (sgB_iff k).mp hB i (by omega))) (by rw [apM_n]; omega) (by omega)
set_option maxHeartbeats 4000000 in
set_option maxRecDepth 100000 in
theorem c_type (E : Ev) (m : Mem) (w : Int64) (n : Int) (hI : Inv m) (h1 : rg n) : CT E 4 mX8_type [rf E 0 0 0, .long w, .int (iI n)] (hp E m) (some (.int (iI (typeR m w n)))) (hp E (typeM m w n)) := by
  refine CT.go okX8_type (Nat.le_of_ble_eq_true rfl) ?_
  show T E 4 mX8_type 0 [some (rf E 0 0 0), some (.long w), none, some (.int (iI n)), none] [] (hp E m) _
  unfold rg at h1
  refine T.iload_n dX8_type_0 rfl ?_
  refine T.iconst dX8_type_1 ?_
  refine T.bipush dX8_type_2 ?_
  refine T.cS1 (As := [.int (iI n), .int (iI 1), .int (iI 8)]) (st := []) dX8_type_4 lk_X8_54 (c_within E _ (by unfold rg; omega) (by unfold rg; omega) (by unfold rg; omega)) (by decide) rfl rfl (Nat.le_of_ble_eq_true rfl) ?_
  refine T.ifB_eq 18 dX8_type_7 (fun c1 => ?_) (fun c1 => ?_)
  · refine T.iconst dX8_type_18 ?_
    exact T.iret dX8_type_19 ⟨congrArg (fun z => some (Value.int (iI z))) (Eq.symm (show typeR m w n = (-1) from by unfold typeR; rw [if_pos (fun z => by first | omega | (obtain ⟨z1, z2⟩ := z; contradiction))])), congrArg (hp E) (Eq.symm (show typeM m w n = m from by unfold typeM; rw [if_pos (fun z => by first | omega | (obtain ⟨z1, z2⟩ := z; contradiction))]))⟩
  · refine T.lload_n dX8_type_10 rfl ?_
    refine T.iload_n dX8_type_11 rfl ?_
    refine T.cS1 (As := [.long w, .int (iI n)]) (st := []) dX8_type_12 lk_X8_138 (by have h0 := c_signs E (hp E m) w n.toNat (by omega); rw [show ((n.toNat : Nat) : Int) = n from by omega] at h0; exact h0) (by decide) rfl rfl (Nat.le_of_ble_eq_true rfl) ?_
    refine T.ifB_ne 20 dX8_type_15 (fun c2 => ?_) (fun c2 => ?_)
    · refine T.iload_n dX8_type_20 rfl ?_
      refine T.bipush dX8_type_21 ?_
      refine T.aload_n dX8_type_23 rfl ?_
      refine T.mget (v := rf E 24 0 0) dX8_type_24 fo_X8_43 ok0 rfl rfl ?_
      refine T.gI (z := m 24 0 0 1) dX8_type_27 fo_X8_142 ok24 rfl rfl rfl ?_
      have q3 : 0 ≤ m 24 0 0 1 ∧ m 24 0 0 1 ≤ 40 := hI 24 0 0 1
      refine T.isub dX8_type_30 ?_
      refine T.icmp_le 37 dX8_type_31 (by unfold rg; omega) (by unfold rg; omega) (fun c4 => ?_) (fun c4 => ?_)
      · refine T.iload_n dX8_type_37 rfl ?_
        refine T.iconst dX8_type_38 ?_
        refine T.isub dX8_type_39 ?_
        refine T.istore (ls' := [some (rf E 0 0 0), some (.long w), none, some (.int (iI n)), some (.int (iI (n - 1)))]) dX8_type_40 rfl ?_
        refine T.fgt (ls' := [some (rf E 0 0 0), some (.long w), none, none, some (.int (iI (n - 1)))]) (by simp [lsw]) ?_
        have hsb : sgB w n.toNat = true := by assumption
        rw [show typeR m w n = m 24 0 0 1 + ((n.toNat : Nat) : Int) from by unfold typeR; rw [if_neg (fun z => z ⟨by omega, hsb⟩), if_neg (by omega)]; omega, show typeM m w n = typL w n.toNat m from by unfold typeM; rw [if_neg (fun z => z ⟨by omega, hsb⟩), if_neg (by omega)]]
        have h0 := c_type_lp E w n.toNat m hI hsb (by omega) (by omega)
        rw [show ((n.toNat : Nat) : Int) - 1 = n - 1 from by omega] at h0
        exact h0
      · refine T.bipush dX8_type_34 ?_
        exact T.iret dX8_type_36 ⟨congrArg (fun z => some (Value.int (iI z))) (Eq.symm (show typeR m w n = (-3) from by unfold typeR; rw [if_neg (fun z => z ⟨by omega, by assumption⟩), if_pos (by omega)])), congrArg (hp E) (Eq.symm (show typeM m w n = m from by unfold typeM; rw [if_neg (fun z => z ⟨by omega, by assumption⟩), if_pos (by omega)]))⟩
    · refine T.iconst dX8_type_18 ?_
      exact T.iret dX8_type_19 ⟨congrArg (fun z => some (Value.int (iI z))) (Eq.symm (show typeR m w n = (-1) from by unfold typeR; rw [if_pos (fun z => by first | omega | (obtain ⟨z1, z2⟩ := z; contradiction))])), congrArg (hp E) (Eq.symm (show typeM m w n = m from by unfold typeM; rw [if_pos (fun z => by first | omega | (obtain ⟨z1, z2⟩ := z; contradiction))]))⟩
def nap (S : PS) (b : Int) : PS := upT (upT S 34 (S 29 5).toNat b) 29 5 (S 29 5 + 1)
def ntyL (w : Int64) : Nat → PS → PS
  | 0, D => D
  | k + 1, D => ntyL w k (nap D (byN w k))
theorem nap_inv {S : PS} {b : Int} (h : InvS kM S) (hb : 0 ≤ b ∧ b ≤ 127) (hl : S 29 5 < 40) : InvS kM (nap S b) := by
  have q : 0 ≤ S 29 5 ∧ S 29 5 ≤ 40 := h 29 5 rfl
  exact (h.up (by show 0 ≤ _ ∧ _ ≤ (127 : Int); omega)).up (by show 0 ≤ _ ∧ _ ≤ (40 : Int); omega)
theorem nap_n (S : PS) (b : Int) : nap S b 29 5 = S 29 5 + 1 := upT_self
theorem ntyL_n (w : Int64) : ∀ (k : Nat) (D : PS), ntyL w k D 29 5 = D 29 5 + k
  | 0, D => by simp [ntyL]
  | k + 1, D => by
    show ntyL w k (nap D (byN w k)) 29 5 = _
    rw [ntyL_n w k, nap_n]
    omega
theorem ntyL_inv {w : Int64} : ∀ (k : Nat) (D : PS), InvS kM D → sgB w k = true → D 29 5 + k ≤ 40 → InvS kM (ntyL w k D)
  | 0, D, h, _, _ => h
  | k + 1, D, h, hB, hl => by
    have h1 := (sgB_iff (k + 1)).mp hB k (by omega)
    exact ntyL_inv k _ (nap_inv h (by omega) (by omega)) ((sgB_iff k).mpr (fun i hi => (sgB_iff (k + 1)).mp hB i (by omega))) (by rw [nap_n]; omega)
def ntypeR (S : PS) (w : Int64) (n : Int) : Int := if ¬ ((1 ≤ n ∧ n ≤ 8) ∧ sgB w n.toNat = true) then -1 else if 40 < S 29 5 + n then -3 else S 29 5 + n
def ntypeS (S : PS) (w : Int64) (n : Int) : PS := if ¬ ((1 ≤ n ∧ n ≤ 8) ∧ sgB w n.toNat = true) then S else if 40 < S 29 5 + n then S else ntyL w n.toNat S
set_option maxHeartbeats 4000000 in
set_option maxRecDepth 100000 in
theorem n_type_b (E : Ev) (m : Mem) (w : Int64) : ∀ (k : Nat) (D : PS), InvS kM D → sgB w k = true → D 29 5 + k ≤ 40 → k ≤ 8 → T E 3 mX9_type 74 [some (rf E 29 0 0), some (.long w), none, none, some (.int (iI ((k : Int) - 1)))] [] (hp E (wrM m D)) (fun r' h' => r' = some (.int (iI (D 29 5 + (k : Int)))) ∧ h' = hp E (wrM m (ntyL w k D))) := by
  intro k
  induction k using Nat.strongRecOn with
  | ind k ih =>
    intro D hD hB hl hk8
    have q24 : 0 ≤ D 29 5 ∧ D 29 5 ≤ 40 := hD 29 5 rfl
    refine T.iload dX9_type_74 rfl ?_
    refine T.if_lt 116 dX9_type_76 (by unfold rg; omega) (fun c1 => ?_) (fun c1 => ?_)
    · refine T.aload_n dX9_type_116 rfl ?_
      refine T.gI (z := D 29 5) dX9_type_117 fo_X9_126 ok29 rfl rfl (wrM_c rfl) ?_
      have q2 : 0 ≤ D 29 5 ∧ D 29 5 ≤ 40 := hD 29 5 rfl
      obtain rfl : k = 0 := by omega
      exact T.iret dX9_type_120 ⟨congrArg (fun z => some (Value.int (iI z))) (show D 29 5 = D 29 5 + ((0 : Nat) : Int) from by omega), rfl⟩
    · have hs1 := (sgB_iff k).mp hB (k - 1) (by omega)
      refine T.aload_n dX9_type_79 rfl ?_
      refine T.mget (v := rf E 34 0 0) dX9_type_80 fo_X9_16 ok29 rfl rfl ?_
      refine T.aload_n dX9_type_83 rfl ?_
      refine T.gI (z := D 29 5) dX9_type_84 fo_X9_126 ok29 rfl rfl (wrM_c rfl) ?_
      have q3 : 0 ≤ D 29 5 ∧ D 29 5 ≤ 40 := hD 29 5 rfl
      refine T.lload_n dX9_type_87 rfl ?_
      refine T.bipush dX9_type_88 ?_
      refine T.iload dX9_type_90 rfl ?_
      refine T.imul dX9_type_92 ?_
      rw [show 8 * ((k : Int) - 1) = 8 * (((k - 1 : Nat) : Nat) : Int) from by omega]
      refine T.lshr dX9_type_93 ?_
      refine T.ldc2 dX9_type_94 kl_X9_120 ?_
      refine T.land dX9_type_97 ?_
      refine T.topl (z := byN w (k - 1)) (by_m (by omega)) ?_
      have hby := byN_bd w (k - 1)
      refine T.l2i dX9_type_98 ?_
      refine T.topi (z := byN w (k - 1)) (lI_int _) ?_
      refine T.nist (x := (D 29 5).toNat) dX9_type_99 rfl ok34 (fun _ => rfl) (by omega) (by omega) ?_
      refine T.aload_n dX9_type_100 rfl ?_
      refine T.dup dX9_type_101 ?_
      refine T.gI (z := D 29 5) dX9_type_102 fo_X9_126 ok29 rfl rfl ((wrM_c rfl).trans (by simp [upT])) ?_
      refine T.iconst dX9_type_105 ?_
      refine T.iadd dX9_type_106 ?_
      refine T.nputI dX9_type_107 fp_X9_126 rfl ok29 rfl rfl (Nat.le_of_ble_eq_true rfl) ?_
      refine T.iinc (ls' := [some (rf E 29 0 0), some (.long w), none, none, some (.int (iI ((k : Int) - 1 + (-1))))]) dX9_type_110 rfl rfl ?_
      refine T.goto 74 dX9_type_113 ?_
      rw [show ntyL w k D = ntyL w (k - 1) (nap D (byN w (k - 1))) from by obtain ⟨j, rfl⟩ : ∃ j, k = j + 1 := ⟨k - 1, by omega⟩; rfl, show D 29 5 + (k : Int) = nap D (byN w (k - 1)) 29 5 + ((k - 1 : Nat) : Int) from by rw [nap_n]; omega, show (k : Int) - 1 + (-1) = ((k - 1 : Nat) : Int) - 1 from by omega]
      exact ih (k - 1) (by omega) (nap D (byN w (k - 1))) (nap_inv hD (by omega) (by omega)) ((sgB_iff _).mpr (fun i hi => (sgB_iff k).mp hB i (by omega))) (by rw [nap_n]; omega) (by omega)
set_option maxHeartbeats 4000000 in
set_option maxRecDepth 100000 in
theorem n_type_a (E : Ev) (m : Mem) (S : PS) (w : Int64) (n : Int) (hS : InvS kM S) (hn : 1 ≤ n ∧ n ≤ 8) : ∀ (k : Nat), k ≤ n.toNat → (∀ i, k ≤ i → i < n.toNat → sgn w i) → T E 3 mX9_type 19 [some (rf E 29 0 0), some (.long w), none, some (.int (iI n)), some (.int (iI ((k : Int) - 1)))] [] (hp E (wrM m S)) (fun r' h' => r' = some (.int (iI (ntypeR S w n))) ∧ h' = hp E (wrM m (ntypeS S w n))) := by
  intro k
  induction k using Nat.strongRecOn with
  | ind k ih =>
    intro hkn hU
    refine T.iload dX9_type_19 rfl ?_
    refine T.if_lt 55 dX9_type_21 (by unfold rg; omega) (fun c1 => ?_) (fun c1 => ?_)
    · have hall : sgB w n.toNat = true := (sgB_iff _).mpr (fun i hi => hU i (by omega) hi)
      refine T.aload_n dX9_type_55 rfl ?_
      refine T.gI (z := S 29 5) dX9_type_56 fo_X9_126 ok29 rfl rfl (wrM_c rfl) ?_
      have q2 : 0 ≤ S 29 5 ∧ S 29 5 ≤ 40 := hS 29 5 rfl
      refine T.iload_n dX9_type_59 rfl ?_
      refine T.iadd dX9_type_60 ?_
      refine T.bipush dX9_type_61 ?_
      refine T.icmp_le 69 dX9_type_63 (by unfold rg; omega) (by unfold rg; omega) (fun c3 => ?_) (fun c3 => ?_)
      · refine T.iload_n dX9_type_69 rfl ?_
        refine T.iconst dX9_type_70 ?_
        refine T.isub dX9_type_71 ?_
        refine T.istore (ls' := [some (rf E 29 0 0), some (.long w), none, some (.int (iI n)), some (.int (iI (n - 1)))]) dX9_type_72 rfl ?_
        refine T.fgt (ls' := [some (rf E 29 0 0), some (.long w), none, none, some (.int (iI (n - 1)))]) (by simp [lsw]) ?_
        rw [show ntypeR S w n = S 29 5 + ((n.toNat : Nat) : Int) from by unfold ntypeR; rw [if_neg (fun z => z ⟨by omega, hall⟩), if_neg (by omega)]; omega, show ntypeS S w n = ntyL w n.toNat S from by unfold ntypeS; rw [if_neg (fun z => z ⟨by omega, hall⟩), if_neg (by omega)]]
        have h0 := n_type_b E m w n.toNat S hS hall (by omega) (by omega)
        rw [show ((n.toNat : Nat) : Int) - 1 = n - 1 from by omega] at h0
        exact h0
      · refine T.bipush dX9_type_66 ?_
        exact T.iret dX9_type_68 ⟨by rw [show ntypeR S w n = (-3) from by unfold ntypeR; rw [if_neg (fun z => z ⟨by omega, hall⟩), if_pos (by omega)]], by rw [show ntypeS S w n = S from by unfold ntypeS; rw [if_neg (fun z => z ⟨by omega, hall⟩), if_pos (by omega)]]⟩
    · refine T.lload_n dX9_type_24 rfl ?_
      refine T.bipush dX9_type_25 ?_
      refine T.iload dX9_type_27 rfl ?_
      refine T.imul dX9_type_29 ?_
      rw [show 8 * ((k : Int) - 1) = 8 * (((k - 1 : Nat) : Nat) : Int) from by omega]
      refine T.lshr dX9_type_30 ?_
      refine T.ldc2 dX9_type_31 kl_X9_120 ?_
      refine T.land dX9_type_34 ?_
      refine T.topl (z := byN w (k - 1)) (by_m (by omega)) ?_
      have hby := byN_bd w (k - 1)
      refine T.ldc2 dX9_type_35 kl_X9_122 ?_
      refine T.ldc2 dX9_type_38 kl_X9_124 ?_
      refine T.cS1 (As := [.long (lI (byN w (k - 1))), .long (lI 32), .long (lI 126)]) (st := []) dX9_type_41 lk_X9_83 (n_in E _ (by unfold rl; omega) (by unfold rl; omega) (by unfold rl; omega)) (by decide) rfl rfl (Nat.le_of_ble_eq_true rfl) ?_
      refine T.ifB_ne 49 dX9_type_44 (fun c4 => ?_) (fun c4 => ?_)
      · refine T.iinc (ls' := [some (rf E 29 0 0), some (.long w), none, some (.int (iI n)), some (.int (iI ((k : Int) - 1 + (-1))))]) dX9_type_49 rfl rfl ?_
        refine T.goto 19 dX9_type_52 ?_
        rw [show (k : Int) - 1 + (-1) = ((k - 1 : Nat) : Int) - 1 from by omega]
        exact ih (k - 1) (by omega) (by omega) (fun i h1 h2 => by by_cases e : i = k - 1; (subst e; exact ⟨by omega, by omega⟩); exact hU i (by omega) h2)
      · refine T.iconst dX9_type_47 ?_
        exact T.iret dX9_type_48 ⟨by rw [show ntypeR S w n = (-1) from by unfold ntypeR; rw [if_pos (fun z => by obtain ⟨z1, z2⟩ := z; have := (sgB_iff _).mp z2 (k - 1) (by omega); omega)]], by rw [show ntypeS S w n = S from by unfold ntypeS; rw [if_pos (fun z => by obtain ⟨z1, z2⟩ := z; have := (sgB_iff _).mp z2 (k - 1) (by omega); omega)]]⟩
set_option maxHeartbeats 4000000 in
set_option maxRecDepth 100000 in
theorem n_type (E : Ev) (m : Mem) (S : PS) (w : Int64) (n : Int) (hS : InvS kM S) (h1 : rg n) : CT E 3 mX9_type [rf E 29 0 0, .long w, .int (iI n)] (hp E (wrM m S)) (some (.int (iI (ntypeR S w n)))) (hp E (wrM m (ntypeS S w n))) := by
  refine CT.go okX9_type (Nat.le_of_ble_eq_true rfl) ?_
  show T E 3 mX9_type 0 [some (rf E 29 0 0), some (.long w), none, some (.int (iI n)), none] [] (hp E (wrM m S)) _
  unfold rg at h1
  refine T.iload_n dX9_type_0 rfl ?_
  refine T.i2l dX9_type_1 (by unfold rg; omega) ?_
  refine T.lconst1 dX9_type_2 ?_
  refine T.ldc2 dX9_type_3 kl_X9_118 ?_
  refine T.cS1 (As := [.long (lI n), .long (lI 1), .long (lI 8)]) (st := []) dX9_type_6 lk_X9_83 (n_in E _ (by unfold rl; omega) (by unfold rl; omega) (by unfold rl; omega)) (by decide) rfl rfl (Nat.le_of_ble_eq_true rfl) ?_
  refine T.ifB_ne 14 dX9_type_9 (fun c1 => ?_) (fun c1 => ?_)
  · refine T.iload_n dX9_type_14 rfl ?_
    refine T.iconst dX9_type_15 ?_
    refine T.isub dX9_type_16 ?_
    refine T.istore (ls' := [some (rf E 29 0 0), some (.long w), none, some (.int (iI n)), some (.int (iI (n - 1)))]) dX9_type_17 rfl ?_
    have h0 := n_type_a E m S w n hS (by omega) n.toNat (Nat.le_refl _) (fun i h1 h2 => by omega)
    rw [show ((n.toNat : Nat) : Int) - 1 = n - 1 from by omega] at h0
    exact h0
  · refine T.iconst dX9_type_12 ?_
    exact T.iret dX9_type_13 ⟨by rw [show ntypeR S w n = -1 from by unfold ntypeR; rw [if_pos (fun z => by omega)]], by rw [show ntypeS S w n = S from by unfold ntypeS; rw [if_pos (fun z => by omega)]]⟩
