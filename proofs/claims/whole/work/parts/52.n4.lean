theorem nI_or (a b : Nat) : nI a ||| nI b = nI (a ||| b) := by
  apply Int32.toBitVec_inj.mp
  rw [Int32.toBitVec_or]
  show BitVec.ofNat 32 a ||| BitVec.ofNat 32 b = BitVec.ofNat 32 (a ||| b)
  apply BitVec.eq_of_getLsbD_eq
  intro j hj
  simp [BitVec.getLsbD_ofNat, hj]
theorem nI_and (a b : Nat) : nI a &&& nI b = nI (a &&& b) := by
  apply Int32.toBitVec_inj.mp
  rw [Int32.toBitVec_and]
  show BitVec.ofNat 32 a &&& BitVec.ofNat 32 b = BitVec.ofNat 32 (a &&& b)
  apply BitVec.eq_of_getLsbD_eq
  intro j hj
  simp [BitVec.getLsbD_ofNat, hj]
def btN (c : Int) : Nat := 2 ^ (c - 97).toNat
theorem btN_lt {c : Int} (h : 97 ≤ c ∧ c ≤ 122) : 0 < btN c ∧ btN c < 67108864 := by
  unfold btN
  refine ⟨Nat.two_pow_pos _, ?_⟩
  exact Nat.pow_lt_pow_right (a := 2) (n := 26) (by decide) (by omega)
theorem isLt_rg {c : Int} (h : isLt c) : 99 ≤ c ∧ c ≤ 120 := by unfold isLt at h; omega
theorem or_lt26 {a b : Nat} (ha : a < 67108864) (hb : b < 67108864) : a ||| b < 67108864 := Nat.or_lt_two_pow (n := 26) ha hb
theorem and_bt {s : Nat} {c : Int} : (s &&& btN c = 0) ↔ s.testBit (c - 97).toNat = false := by
  unfold btN
  generalize (c - 97).toNat = k
  constructor
  · intro h
    have h2 := congrArg (fun z => z.testBit k) h
    simpa [Nat.testBit_and, Nat.testBit_two_pow_self] using h2
  · intro h
    apply Nat.eq_of_testBit_eq
    intro j
    rw [Nat.testBit_and, Nat.testBit_two_pow, Nat.zero_testBit]
    by_cases e : k = j
    · subst e; simp [h]
    · simp [e]
theorem shl_bt : ∀ k : Nat, k < 26 → iI 1 <<< (iI (k : Int) &&& 31) = iI ((2 ^ k : Nat) : Int) := by decide +kernel
set_option maxHeartbeats 4000000 in
set_option maxRecDepth 100000 in
theorem c_bitOf (E : Ev) (h : Hp) (c : Int) (hc : 97 ≤ c ∧ c ≤ 122) : CT E 1 mX3_bitOf [.int (iI c)] h (some (.int (iI ((btN c : Nat) : Int)))) h := by
  refine CT.go okX3_bitOf (Nat.le_of_ble_eq_true rfl) ?_
  show T E 1 mX3_bitOf 0 [some (.int (iI c))] [] h _
  refine T.iconst dX3_bitOf_0 ?_
  refine T.iload_n dX3_bitOf_1 rfl ?_
  refine T.bipush dX3_bitOf_2 ?_
  refine T.isub dX3_bitOf_4 ?_
  refine T.ishl dX3_bitOf_5 ?_
  refine T.topi (z := ((btN c : Nat) : Int)) (by rw [show c - 97 = (((c - 97).toNat : Nat) : Int) from by omega]; exact shl_bt _ (by omega)) ?_
  exact T.iret dX3_bitOf_6 ⟨rfl, rfl⟩
def faL (tp : Nat → Int) : Nat → Nat → Nat → Int
  | 0, i, s => if s = 0 then -20 - (i : Int) else 0
  | f + 1, i, s => if tp i = 32 then faL tp f (i + 1) s else if ¬ isLt (tp i) ∨ s &&& btN (tp i) ≠ 0 then -20 - (i : Int) else faL tp f (i + 1) (s ||| btN (tp i))
theorem faL_rg (tp : Nat → Int) : ∀ f i s, i + f ≤ 40 → -60 ≤ faL tp f i s ∧ faL tp f i s ≤ 0
  | 0, i, s, h => by unfold faL; split <;> omega
  | f + 1, i, s, h => by
    unfold faL
    split
    · exact faL_rg tp f (i + 1) s (by omega)
    · split
      · omega
      · exact faL_rg tp f (i + 1) _ (by omega)
set_option maxHeartbeats 4000000 in
set_option maxRecDepth 100000 in
theorem c_fault_lp (E : Ev) (m : Mem) (ad : AD) (hR : ∀ s, E.2.2.2.2 s → RO E.2.2.1 ad s) (hI : Inv m) (n : Nat) (hn : m 24 0 0 1 = n) : ∀ (k : Nat) (i s : Nat), n - i = k → i ≤ n → s < 67108864 → T E 5 mX6_fault 4 [some (rf E 24 0 0), some (.int (iI ((s : Nat) : Int))), some (.int (iI (i : Int))), none] [] (hp E m) (fun r' h' => r' = some (.int (iI (faL (m 25 0 0) (n - i) i s))) ∧ h' = hp E m) := by
  have hn8 : 0 ≤ m 24 0 0 1 ∧ m 24 0 0 1 ≤ 40 := hI 24 0 0 1
  intro k
  induction k using Nat.strongRecOn with
  | ind k ih =>
    intro i s hk hi hs
    refine T.iload_n dX6_fault_4 rfl ?_
    refine T.aload_n dX6_fault_5 rfl ?_
    refine T.gI (z := m 24 0 0 1) dX6_fault_6 fo_X6_15 ok24 rfl rfl rfl ?_
    have q1 : 0 ≤ m 24 0 0 1 ∧ m 24 0 0 1 ≤ 40 := hI 24 0 0 1
    refine T.icmp_ge 62 dX6_fault_9 (by unfold rg; omega) (by unfold rg; omega) (fun c2 => ?_) (fun c2 => ?_)
    · refine T.iload_n dX6_fault_62 rfl ?_
      refine T.if_ne 76 dX6_fault_63 (by unfold rg; omega) (fun c3 => ?_) (fun c3 => ?_)
      · refine T.iconst dX6_fault_76 ?_
        exact T.iret dX6_fault_77 ⟨by rw [show n - i = 0 from by omega]; show _ = some (Value.int (iI (if s = 0 then -20 - (i : Int) else 0))); rw [if_neg (by omega)], rfl⟩
      · refine T.bipush dX6_fault_66 ?_
        refine T.aload_n dX6_fault_68 rfl ?_
        refine T.gI (z := m 24 0 0 1) dX6_fault_69 fo_X6_15 ok24 rfl rfl rfl ?_
        refine T.isub dX6_fault_72 ?_
        refine T.goto 77 dX6_fault_73 ?_
        exact T.iret dX6_fault_77 ⟨by rw [show n - i = 0 from by omega]; show _ = some (Value.int (iI (if s = 0 then -20 - (i : Int) else 0))); rw [if_pos (by omega), show m 24 0 0 1 = (i : Int) from by omega], rfl⟩
    · refine T.aload_n dX6_fault_12 rfl ?_
      refine T.mget (v := rf E 25 0 0) dX6_fault_13 fo_X6_9 ok24 rfl rfl ?_
      refine T.iload_n dX6_fault_16 rfl ?_
      refine T.aI (z := m 25 0 0 i) (x := i) dX6_fault_17 ok25 (fun _ => rfl) rfl (by omega) rfl ?_
      have q4 : 0 ≤ m 25 0 0 i ∧ m 25 0 0 i ≤ 127 := hI 25 0 0 i
      refine T.istore_n (ls' := [some (rf E 24 0 0), some (.int (iI ((s : Nat) : Int))), some (.int (iI (i : Int))), some (.int (iI (m 25 0 0 i)))]) dX6_fault_18 rfl ?_
      refine T.iload_n dX6_fault_19 rfl ?_
      refine T.bipush dX6_fault_20 ?_
      refine T.icmp_eq 56 dX6_fault_22 (by unfold rg; omega) (by unfold rg; omega) (fun c5 => ?_) (fun c5 => ?_)
      · refine T.iinc (ls' := [some (rf E 24 0 0), some (.int (iI ((s : Nat) : Int))), some (.int (iI ((i : Int) + 1))), some (.int (iI (m 25 0 0 i)))]) dX6_fault_56 rfl rfl ?_
        refine T.goto 4 dX6_fault_59 ?_
        refine T.fgt (ls' := [some (rf E 24 0 0), some (.int (iI ((s : Nat) : Int))), some (.int (iI ((i : Int) + 1))), none]) (by simp [lsw]) ?_
        rw [show faL (m 25 0 0) (n - i) i s = faL (m 25 0 0) (n - (i + 1)) (i + 1) s from by rw [show n - i = (n - (i + 1)) + 1 from by omega]; exact if_pos (by omega)]
        exact ih (n - (i + 1)) (by omega) (i + 1) _ rfl (by omega) hs
      · refine T.ldcS dX6_fault_25 (fun s hs => (hR s hs).2.2.2.2.2.1) ?_
        refine T.iload_n dX6_fault_27 rfl ?_
        refine T.i2c dX6_fault_28 ?_
        refine T.topi (z := m 25 0 0 i) (i2c_of (by omega)) ?_
        refine T.cR1 (As := [.int (iI (m 25 0 0 i))]) (st := []) dX6_fault_29 lk_X6_21 (c_ix E (hp E m) ad hR (m 25 0 0 i) (by omega)) (fun s hs => (hR s hs).2.2.2.2.2.2.1) (by decide) rfl rfl (Nat.le_of_ble_eq_true rfl) ?_
        have hix := ixS_rg (m 25 0 0 i)
        refine T.if_lt 44 dX6_fault_32 (by unfold rg; omega) (fun c6 => ?_) (fun c6 => ?_)
        · refine T.bipush dX6_fault_44 ?_
          refine T.iload_n dX6_fault_46 rfl ?_
          refine T.isub dX6_fault_47 ?_
          rw [show faL (m 25 0 0) (n - i) i s = -20 - (i : Int) from by rw [show n - i = (n - (i + 1)) + 1 from by omega]; exact (if_neg (by omega)).trans (if_pos (by first | exact Or.inr (by omega) | exact Or.inl (fun z => by have h0 := ixS_lt (m 25 0 0 i).toNat (by omega); rw [show (((m 25 0 0 i).toNat : Nat) : Int) = m 25 0 0 i from by omega] at h0; have := h0.mpr z; omega)))]
          exact T.iret dX6_fault_48 ⟨rfl, rfl⟩
        · have hil : isLt (m 25 0 0 i) := by have h0 := ixS_lt (m 25 0 0 i).toNat (by omega); rw [show (((m 25 0 0 i).toNat : Nat) : Int) = m 25 0 0 i from by omega] at h0; exact h0.mp (by omega)
          have hir := isLt_rg hil
          have hbt := btN_lt (c := m 25 0 0 i) (by omega)
          refine T.iload_n dX6_fault_35 rfl ?_
          refine T.iload_n dX6_fault_36 rfl ?_
          refine T.cS1 (As := [.int (iI (m 25 0 0 i))]) (st := [.int (iI ((s : Nat) : Int))]) dX6_fault_37 lk_X6_27 (c_bitOf E (hp E m) (m 25 0 0 i) (by omega)) (by decide) rfl rfl (Nat.le_of_ble_eq_true rfl) ?_
          refine T.iand dX6_fault_40 ?_
          refine T.topi (z := ((s &&& btN (m 25 0 0 i) : Nat) : Int)) (by rw [iI_nI, iI_nI, nI_and, ← iI_nI]) ?_
          have hand : s &&& btN (m 25 0 0 i) ≤ s := Nat.and_le_left
          refine T.if_eq 49 dX6_fault_41 (by unfold rg; omega) (fun c7 => ?_) (fun c7 => ?_)
          · refine T.iload_n dX6_fault_49 rfl ?_
            refine T.iload_n dX6_fault_50 rfl ?_
            refine T.cS1 (As := [.int (iI (m 25 0 0 i))]) (st := [.int (iI ((s : Nat) : Int))]) dX6_fault_51 lk_X6_27 (c_bitOf E (hp E m) (m 25 0 0 i) (by omega)) (by decide) rfl rfl (Nat.le_of_ble_eq_true rfl) ?_
            refine T.ior dX6_fault_54 ?_
            refine T.topi (z := ((s ||| btN (m 25 0 0 i) : Nat) : Int)) (by rw [iI_nI, iI_nI, nI_or, ← iI_nI]) ?_
            refine T.istore_n (ls' := [some (rf E 24 0 0), some (.int (iI ((s ||| btN (m 25 0 0 i) : Nat) : Int))), some (.int (iI (i : Int))), some (.int (iI (m 25 0 0 i)))]) dX6_fault_55 rfl ?_
            refine T.iinc (ls' := [some (rf E 24 0 0), some (.int (iI ((s ||| btN (m 25 0 0 i) : Nat) : Int))), some (.int (iI ((i : Int) + 1))), some (.int (iI (m 25 0 0 i)))]) dX6_fault_56 rfl rfl ?_
            refine T.goto 4 dX6_fault_59 ?_
            refine T.fgt (ls' := [some (rf E 24 0 0), some (.int (iI ((s ||| btN (m 25 0 0 i) : Nat) : Int))), some (.int (iI ((i : Int) + 1))), none]) (by simp [lsw]) ?_
            rw [show faL (m 25 0 0) (n - i) i s = faL (m 25 0 0) (n - (i + 1)) (i + 1) (s ||| btN (m 25 0 0 i)) from by rw [show n - i = (n - (i + 1)) + 1 from by omega]; exact (if_neg (by omega)).trans (if_neg (fun z => z.elim (fun z => z hil) (fun z => by omega)))]
            exact ih (n - (i + 1)) (by omega) (i + 1) _ rfl (by omega) (or_lt26 hs (by omega))
          · refine T.bipush dX6_fault_44 ?_
            refine T.iload_n dX6_fault_46 rfl ?_
            refine T.isub dX6_fault_47 ?_
            rw [show faL (m 25 0 0) (n - i) i s = -20 - (i : Int) from by rw [show n - i = (n - (i + 1)) + 1 from by omega]; exact (if_neg (by omega)).trans (if_pos (by first | exact Or.inr (by omega) | exact Or.inl (fun z => by have h0 := ixS_lt (m 25 0 0 i).toNat (by omega); rw [show (((m 25 0 0 i).toNat : Nat) : Int) = m 25 0 0 i from by omega] at h0; have := h0.mpr z; omega)))]
            exact T.iret dX6_fault_48 ⟨rfl, rfl⟩
def fauR (m : Mem) : Int := faL (m 25 0 0) (m 24 0 0 1).toNat 0 0
set_option maxHeartbeats 4000000 in
set_option maxRecDepth 100000 in
theorem c_fault (E : Ev) (m : Mem) (ad : AD) (hR : ∀ s, E.2.2.2.2 s → RO E.2.2.1 ad s) (hI : Inv m) : CT E 5 mX6_fault [rf E 24 0 0] (hp E m) (some (.int (iI (fauR m)))) (hp E m) := by
  refine CT.go okX6_fault (Nat.le_of_ble_eq_true rfl) ?_
  show T E 5 mX6_fault 0 [some (rf E 24 0 0), none, none, none] [] (hp E m) _
  refine T.iconst dX6_fault_0 ?_
  refine T.istore_n (ls' := [some (rf E 24 0 0), some (.int (iI 0)), none, none]) dX6_fault_1 rfl ?_
  refine T.iconst dX6_fault_2 ?_
  refine T.istore_n (ls' := [some (rf E 24 0 0), some (.int (iI 0)), some (.int (iI 0)), none]) dX6_fault_3 rfl ?_
  have hn8 : 0 ≤ m 24 0 0 1 ∧ m 24 0 0 1 ≤ 40 := hI 24 0 0 1
  exact c_fault_lp E m ad hR hI _ (Int.toNat_of_nonneg hn8.1).symm _ 0 0 rfl (Nat.zero_le _) (by omega)
/-- the letters of a law, read from a tape: how many, the bits, the letters -/
def rdL (tp : Nat → Int) : Nat → Nat → Nat → Nat → (Nat → Int) → Nat × Nat × (Nat → Int)
  | 0, _, c, s, lt => (c, s, lt)
  | f + 1, i, c, s, lt => if c < 10 then (if tp i = 32 then rdL tp f (i + 1) c s lt else rdL tp f (i + 1) (c + 1) (s ||| btN (tp i)) (upd1 lt c (tp i))) else (c, s, lt)
def rdM (m : Mem) (q : Nat) (c s : Nat) (lt : Nat → Int) : Mem := updS (up (up m 8 q 0 1 c) 8 q 0 2 s) 9 q 0 lt
theorem rdM_1 {m : Mem} {q c s : Nat} {lt : Nat → Int} : rdM m q c s lt 8 q 0 1 = c := by unfold rdM updS up; simp
theorem rdM_2 {m : Mem} {q c s : Nat} {lt : Nat → Int} : rdM m q c s lt 8 q 0 2 = s := by unfold rdM updS up; simp
theorem rdM_9 {m : Mem} {q c s : Nat} {lt : Nat → Int} : rdM m q c s lt 9 q 0 = lt := by unfold rdM updS; simp
theorem rdM_o {m : Mem} {q c s : Nat} {lt : Nat → Int} {k : Nat} (h : k ≠ 8 ∧ k ≠ 9) : rdM m q c s lt k = m k := by
  funext j i x
  unfold rdM updS up
  simp [h.1, h.2]
theorem rdM_up {m : Mem} {q c s : Nat} {lt : Nat → Int} {b : Int} {c' s' : Nat} : up (up (up (rdM m q c s lt) 9 q 0 c b) 8 q 0 1 ((c' : Nat) : Int)) 8 q 0 2 ((s' : Nat) : Int) = rdM m q c' s' (upd1 lt c b) := by
  funext k j i x
  unfold rdM updS up upd1
  by_cases h1 : k = 8
  · subst h1
    by_cases h2 : j = q <;> by_cases h3 : i = 0 <;> by_cases h4 : x = 1 <;> by_cases h5 : x = 2 <;> simp_all
  · by_cases h6 : k = 9
    · subst h6
      by_cases h2 : j = q <;> by_cases h3 : i = 0 <;> by_cases h4 : x = c <;> simp_all
    · simp [h1, h6]
theorem rdM_0 {m : Mem} {q : Nat} : up (up m 8 q 0 1 0) 8 q 0 2 0 = rdM m q 0 0 (m 9 q 0) := by
  funext k j i x
  unfold rdM updS up
  by_cases h6 : k = 9 ∧ j = q ∧ i = 0
  · obtain ⟨rfl, rfl, rfl⟩ := h6
    simp
  · rw [if_neg h6]
    simp
theorem rdM_inv {m : Mem} {q c s : Nat} {lt : Nat → Int} (h : Inv m) (hc : c ≤ 10) (hs : s < 67108864) (hl : ∀ x, 0 ≤ lt x ∧ lt x ≤ 127) : Inv (rdM m q c s lt) := by
  have h1 := (h.up (k := 8) (j := q) (i := 0) (x := 1) (v := (c : Int)) (by show 0 ≤ _ ∧ _ ≤ (10 : Int); omega)).up (k := 8) (j := q) (i := 0) (x := 2) (v := (s : Int)) (by show 0 ≤ _ ∧ _ ≤ (67108863 : Int); omega)
  intro k j i x
  unfold rdM updS
  by_cases e : k = 9 ∧ j = q ∧ i = 0
  · rw [if_pos e]
    obtain ⟨rfl, -, -⟩ := e
    exact hl x
  · rw [if_neg e]; exact h1 k j i x
set_option maxHeartbeats 4000000 in
set_option maxRecDepth 100000 in
theorem c_read_lp (E : Ev) (m : Mem) (q : Nat) (hI : Inv m) (hq : q < 22) (n : Nat) (hn : m 24 0 0 1 = n) (hn40 : n ≤ 40) (hlt : ∀ i, i < n → m 25 0 0 i = 32 ∨ isLt (m 25 0 0 i)) : ∀ (k : Nat) (i c s : Nat) (lt : Nat → Int) (D : Mem), n - i = k → i ≤ n → c ≤ 10 → s < 67108864 → (∀ x, 0 ≤ lt x ∧ lt x ≤ 127) → D = rdM m q c s lt → T E 2 mX3_read 12 [some (rf E 8 q 0), some (rf E 24 0 0), some (.int (iI (i : Int)))] [] (hp E D) (fun r' h' => r' = none ∧ h' = hp E (rdM m q (rdL (m 25 0 0) (n - i) i c s lt).1 (rdL (m 25 0 0) (n - i) i c s lt).2.1 (rdL (m 25 0 0) (n - i) i c s lt).2.2)) := by
  intro k
  induction k using Nat.strongRecOn with
  | ind k ih =>
    intro i c s lt D hk hi hc hs hl hDe
    have hD : Inv D := by rw [hDe]; exact rdM_inv hI hc hs hl
    have e1 : D 8 q 0 1 = (c : Int) := by rw [hDe, rdM_1]
    have e2 : D 8 q 0 2 = ((s : Nat) : Int) := by rw [hDe, rdM_2]
    have e25 : D 25 = m 25 := by rw [hDe, rdM_o (by decide)]
    have e24 : D 24 0 0 1 = n := by rw [hDe, rdM_o (by decide)]; exact hn
    have e25i : D 25 0 0 i = m 25 0 0 i := by rw [e25]
    have htr : 0 ≤ m 25 0 0 i ∧ m 25 0 0 i ≤ 127 := hI 25 0 0 i
    refine T.iload_n dX3_read_12 rfl ?_
    refine T.aload_n dX3_read_13 rfl ?_
    refine T.gI (z := D 24 0 0 1) dX3_read_14 fo_X3_22 ok24 rfl rfl rfl ?_
    have q1 : 0 ≤ D 24 0 0 1 ∧ D 24 0 0 1 ≤ 40 := hD 24 0 0 1
    refine T.icmp_ge 89 dX3_read_17 (by unfold rg; omega) (by unfold rg; omega) (fun c2 => ?_) (fun c2 => ?_)
    · rw [show rdL (m 25 0 0) (n - i) i c s lt = (c, s, lt) from by cases hf : n - i with
          | zero => rfl
          | succ f => exact if_neg (by omega)]
      exact T.vret dX3_read_89 ⟨rfl, by rw [hDe]⟩
    · refine T.aload_n dX3_read_20 rfl ?_
      refine T.gI (z := D 8 q 0 1) dX3_read_21 fo_X3_15 (ok8 (by omega)) rfl rfl rfl ?_
      have q3 : 0 ≤ D 8 q 0 1 ∧ D 8 q 0 1 ≤ 10 := hD 8 q 0 1
      refine T.bipush dX3_read_24 ?_
      refine T.icmp_ge 89 dX3_read_26 (by unfold rg; omega) (by unfold rg; omega) (fun c4 => ?_) (fun c4 => ?_)
      · rw [show rdL (m 25 0 0) (n - i) i c s lt = (c, s, lt) from by cases hf : n - i with
            | zero => rfl
            | succ f => exact if_neg (by omega)]
        exact T.vret dX3_read_89 ⟨rfl, by rw [hDe]⟩
      · refine T.aload_n dX3_read_29 rfl ?_
        refine T.mget (v := rf E 25 0 0) dX3_read_30 fo_X3_25 ok24 rfl rfl ?_
        refine T.iload_n dX3_read_33 rfl ?_
        refine T.aI (z := D 25 0 0 i) (x := i) dX3_read_34 ok25 (fun _ => rfl) rfl (by omega) rfl ?_
        have q5 : 0 ≤ D 25 0 0 i ∧ D 25 0 0 i ≤ 127 := hD 25 0 0 i
        refine T.bipush dX3_read_35 ?_
        refine T.icmp_eq 83 dX3_read_37 (by unfold rg; omega) (by unfold rg; omega) (fun c6 => ?_) (fun c6 => ?_)
        · refine T.iinc (ls' := [some (rf E 8 q 0), some (rf E 24 0 0), some (.int (iI ((i : Int) + 1)))]) dX3_read_83 rfl rfl ?_
          refine T.goto 12 dX3_read_86 ?_
          rw [show rdL (m 25 0 0) (n - i) i c s lt = rdL (m 25 0 0) (n - (i + 1)) (i + 1) c s lt from by rw [show n - i = (n - (i + 1)) + 1 from by omega]; exact (if_pos (by omega)).trans (if_pos (by omega))]
          exact ih (n - (i + 1)) (by omega) (i + 1) c s lt D rfl (by omega) hc hs hl hDe
        · have hil := (hlt i (by omega)).resolve_left (by omega)
          have hir := isLt_rg hil
          have hbt := btN_lt (c := m 25 0 0 i) (by omega)
          refine T.aload_n dX3_read_40 rfl ?_
          refine T.mget (v := rf E 9 q 0) dX3_read_41 fo_X3_9 (ok8 (by omega)) rfl rfl ?_
          refine T.aload_n dX3_read_44 rfl ?_
          refine T.gI (z := D 8 q 0 1) dX3_read_45 fo_X3_15 (ok8 (by omega)) rfl rfl rfl ?_
          refine T.aload_n dX3_read_48 rfl ?_
          refine T.mget (v := rf E 25 0 0) dX3_read_49 fo_X3_25 ok24 rfl rfl ?_
          refine T.iload_n dX3_read_52 rfl ?_
          refine T.aI (z := D 25 0 0 i) (x := i) dX3_read_53 ok25 (fun _ => rfl) rfl (by omega) rfl ?_
          refine T.mist (x := (D 8 q 0 1).toNat) dX3_read_54 (ok9 (by omega)) (fun _ => rfl) (by omega) (by omega) ?_
          refine T.aload_n dX3_read_55 rfl ?_
          refine T.dup dX3_read_56 ?_
          refine T.gI (z := D 8 q 0 1) dX3_read_57 fo_X3_15 (ok8 (by omega)) rfl rfl rfl ?_
          refine T.iconst dX3_read_60 ?_
          refine T.iadd dX3_read_61 ?_
          refine T.mputI dX3_read_62 fp_X3_15 (ok8 (by omega)) rfl rfl (Nat.le_of_ble_eq_true rfl) ?_
          refine T.aload_n dX3_read_65 rfl ?_
          refine T.dup dX3_read_66 ?_
          refine T.gI (z := D 8 q 0 2) dX3_read_67 fo_X3_19 (ok8 (by omega)) rfl rfl (by simp [up]) ?_
          have q7 : 0 ≤ D 8 q 0 2 ∧ D 8 q 0 2 ≤ 67108863 := hD 8 q 0 2
          refine T.aload_n dX3_read_70 rfl ?_
          refine T.mget (v := rf E 25 0 0) dX3_read_71 fo_X3_25 ok24 rfl rfl ?_
          refine T.iload_n dX3_read_74 rfl ?_
          refine T.aI (z := D 25 0 0 i) (x := i) dX3_read_75 ok25 (fun _ => rfl) rfl (by omega) rfl ?_
          refine T.cS1 (As := [.int (iI (D 25 0 0 i))]) (st := [.int (iI (D 8 q 0 2)), rf E 8 q 0]) dX3_read_76 lk_X3_28 (by rw [e25i]; exact c_bitOf E _ (m 25 0 0 i) (by omega)) (by decide) rfl rfl (Nat.le_of_ble_eq_true rfl) ?_
          refine T.ior dX3_read_79 ?_
          refine T.topi (z := ((s ||| btN (m 25 0 0 i) : Nat) : Int)) (by rw [e2, iI_nI, iI_nI, nI_or, ← iI_nI]) ?_
          refine T.mputI dX3_read_80 fp_X3_19 (ok8 (by omega)) rfl rfl (Nat.le_of_ble_eq_true rfl) ?_
          refine T.iinc (ls' := [some (rf E 8 q 0), some (rf E 24 0 0), some (.int (iI ((i : Int) + 1)))]) dX3_read_83 rfl rfl ?_
          refine T.goto 12 dX3_read_86 ?_
          rw [show (up (up (up D 9 q 0 ((D 8 q 0 1).toNat) (m 25 0 0 i)) 8 q 0 1 ((D 8 q 0 1) + 1)) 8 q 0 2 ((s ||| btN (m 25 0 0 i) : Nat) : Int)) = rdM m q (c + 1) (s ||| btN (m 25 0 0 i)) (upd1 lt c (m 25 0 0 i)) from by rw [e1, show ((c : Int)).toNat = c from by omega, show (c : Int) + 1 = ((c + 1 : Nat) : Int) from by omega, hDe]; exact rdM_up]
          rw [show rdL (m 25 0 0) (n - i) i c s lt = rdL (m 25 0 0) (n - (i + 1)) (i + 1) (c + 1) (s ||| btN (m 25 0 0 i)) (upd1 lt c (m 25 0 0 i)) from by rw [show n - i = (n - (i + 1)) + 1 from by omega]; exact (if_pos (by omega)).trans (if_neg (by omega))]
          exact ih (n - (i + 1)) (by omega) (i + 1) (c + 1) _ _ _ rfl (by omega) (by omega) (or_lt26 hs (by omega)) (fun x => by unfold upd1; split; exact htr; exact hl x) rfl
def readM (m : Mem) (q : Nat) : Mem := rdM m q (rdL (m 25 0 0) (m 24 0 0 1).toNat 0 0 0 (m 9 q 0)).1 (rdL (m 25 0 0) (m 24 0 0 1).toNat 0 0 0 (m 9 q 0)).2.1 (rdL (m 25 0 0) (m 24 0 0 1).toNat 0 0 0 (m 9 q 0)).2.2
set_option maxHeartbeats 4000000 in
set_option maxRecDepth 100000 in
theorem c_read (E : Ev) (m : Mem) (q : Nat) (hI : Inv m) (hq : q < 22) (hlt : ∀ i, i < (m 24 0 0 1).toNat → m 25 0 0 i = 32 ∨ isLt (m 25 0 0 i)) : CT E 2 mX3_read [rf E 8 q 0, rf E 24 0 0] (hp E m) (none) (hp E (readM m q)) := by
  refine CT.go okX3_read (Nat.le_of_ble_eq_true rfl) ?_
  show T E 2 mX3_read 0 [some (rf E 8 q 0), some (rf E 24 0 0), none] [] (hp E m) _
  refine T.aload_n dX3_read_0 rfl ?_
  refine T.iconst dX3_read_1 ?_
  refine T.mputI dX3_read_2 fp_X3_15 (ok8 (by omega)) rfl rfl (Nat.le_of_ble_eq_true rfl) ?_
  refine T.aload_n dX3_read_5 rfl ?_
  refine T.iconst dX3_read_6 ?_
  refine T.mputI dX3_read_7 fp_X3_19 (ok8 (by omega)) rfl rfl (Nat.le_of_ble_eq_true rfl) ?_
  refine T.iconst dX3_read_10 ?_
  refine T.istore_n (ls' := [some (rf E 8 q 0), some (rf E 24 0 0), some (.int (iI 0))]) dX3_read_11 rfl ?_
  rw [rdM_0]
  have hn8 : 0 ≤ m 24 0 0 1 ∧ m 24 0 0 1 ≤ 40 := hI 24 0 0 1
  exact c_read_lp E m q hI hq _ (Int.toNat_of_nonneg hn8.1).symm (by omega) hlt _ 0 0 0 _ _ rfl (Nat.zero_le _) (by omega) (by omega) (fun x => hI 9 q 0 x) rfl
theorem faL_ok (tp : Nat → Int) : ∀ f i s, faL tp f i s = 0 → ∀ j, i ≤ j → j < i + f → tp j = 32 ∨ isLt (tp j)
  | 0, i, s, h, j, h1, h2 => by omega
  | f + 1, i, s, h, j, h1, h2 => by
    unfold faL at h
    by_cases e : tp i = 32
    · rw [if_pos e] at h
      by_cases ej : j = i
      · subst ej; exact Or.inl e
      · exact faL_ok tp f (i + 1) s h j (by omega) (by omega)
    · rw [if_neg e] at h
      by_cases e2 : ¬ isLt (tp i) ∨ s &&& btN (tp i) ≠ 0
      · rw [if_pos e2] at h; omega
      · rw [if_neg e2] at h
        by_cases ej : j = i
        · subst ej
          exact Or.inr (Classical.byContradiction (fun z => e2 (Or.inl z)))
        · exact faL_ok tp f (i + 1) _ h j (by omega) (by omega)
def lawR (m : Mem) (l : Int) : Int := if ¬ (0 ≤ l ∧ l ≤ 1) then -1 else if fauR m = 0 then (readM m (2 * 0 + l.toNat)) 8 (2 * 0 + l.toNat) 0 1 else fauR m
def lawM (m : Mem) (l : Int) : Mem := if ¬ (0 ≤ l ∧ l ≤ 1) then m else if fauR m = 0 then up (readM m (2 * 0 + l.toNat)) 24 0 0 1 0 else up m 24 0 0 1 0
set_option maxHeartbeats 4000000 in
set_option maxRecDepth 100000 in
theorem c_law (E : Ev) (m : Mem) (ad : AD) (hR : ∀ s, E.2.2.2.2 s → RO E.2.2.1 ad s) (l : Int) (hI : Inv m) (h1 : rg l) : CT E 6 mX8_law [rf E 0 0 0, .int (iI l)] (hp E m) (some (.int (iI (lawR m l)))) (hp E (lawM m l)) := by
  refine CT.go okX8_law (Nat.le_of_ble_eq_true rfl) ?_
  show T E 6 mX8_law 0 [some (rf E 0 0 0), some (.int (iI l)), none] [] (hp E m) _
  unfold rg at h1
  refine T.iload_n dX8_law_0 rfl ?_
  refine T.cS1 (As := [.int (iI l)]) (st := []) dX8_law_1 lk_X8_153 (c_isLaw E _ (by unfold rg; omega)) (by decide) rfl rfl (Nat.le_of_ble_eq_true rfl) ?_
  refine T.ifB_ne 9 dX8_law_4 (fun c1 => ?_) (fun c1 => ?_)
  · refine T.aload_n dX8_law_9 rfl ?_
    refine T.mget (v := rf E 24 0 0) dX8_law_10 fo_X8_43 ok0 rfl rfl ?_
    refine T.cV1 (As := []) (st := []) dX8_law_13 lk_X8_156 (c_fault E m ad hR hI) ok24 rfl rfl (by decide) rfl rfl (Nat.le_of_ble_eq_true rfl) ?_
    have hn8 : 0 ≤ m 24 0 0 1 ∧ m 24 0 0 1 ≤ 40 := hI 24 0 0 1
    have hfr := faL_rg (m 25 0 0) (m 24 0 0 1).toNat 0 0 (by omega)
    have hfr2 : -60 ≤ fauR m ∧ fauR m ≤ 0 := hfr
    refine T.istore_n (ls' := [some (rf E 0 0 0), some (.int (iI l)), some (.int (iI (fauR m)))]) dX8_law_16 rfl ?_
    refine T.iload_n dX8_law_17 rfl ?_
    refine T.if_ne 37 dX8_law_18 (by unfold rg; omega) (fun c2 => ?_) (fun c2 => ?_)
    · refine T.aload_n dX8_law_37 rfl ?_
      refine T.mget (v := rf E 24 0 0) dX8_law_38 fo_X8_43 ok0 rfl rfl ?_
      refine T.iconst dX8_law_41 ?_
      refine T.mputI dX8_law_42 fp_X8_142 ok24 rfl rfl (Nat.le_of_ble_eq_true rfl) ?_
      refine T.iload_n dX8_law_45 rfl ?_
      refine T.if_ne 64 dX8_law_46 (by unfold rg; omega) (fun c3 => ?_) (fun c3 => ?_)
      · refine T.iload_n dX8_law_64 rfl ?_
        exact T.iret dX8_law_65 ⟨congrArg (fun z => some (Value.int (iI z))) (Eq.symm (show lawR m l = fauR m from by unfold lawR; rw [if_neg (by omega), if_neg (by omega)])), congrArg (hp E) (Eq.symm (show lawM m l = (up m 24 0 0 1 0) from by unfold lawM; rw [if_neg (by omega), if_neg (by omega)]))⟩
      · refine T.aload_n dX8_law_49 rfl ?_
        refine T.mget (v := rf E 1 0 0) dX8_law_50 fo_X8_10 ok0 rfl rfl ?_
        refine T.mget (v := rf E 4 0 0) dX8_law_53 fo_X8_160 (ok1 (by decide)) rfl rfl ?_
        refine T.iload_n dX8_law_56 rfl ?_
        refine T.mald (C := RX3) (x := l.toNat) dX8_law_57 (ok4 (by decide)) (fun _ => rfl) rfl (by omega) (by omega) ?_
        refine T.gI (z := m 8 (2 * 0 + l.toNat) 0 1) dX8_law_58 fo_X8_170 (ok8 (by omega)) rfl rfl rfl ?_
        have q4 : 0 ≤ m 8 (2 * 0 + l.toNat) 0 1 ∧ m 8 (2 * 0 + l.toNat) 0 1 ≤ 10 := hI 8 (2 * 0 + l.toNat) 0 1
        refine T.goto 65 dX8_law_61 ?_
        exfalso; omega
    · refine T.aload_n dX8_law_21 rfl ?_
      refine T.mget (v := rf E 1 0 0) dX8_law_22 fo_X8_10 ok0 rfl rfl ?_
      refine T.mget (v := rf E 4 0 0) dX8_law_25 fo_X8_160 (ok1 (by decide)) rfl rfl ?_
      refine T.iload_n dX8_law_28 rfl ?_
      refine T.mald (C := RX3) (x := l.toNat) dX8_law_29 (ok4 (by decide)) (fun _ => rfl) rfl (by omega) (by omega) ?_
      refine T.aload_n dX8_law_30 rfl ?_
      refine T.mget (v := rf E 24 0 0) dX8_law_31 fo_X8_43 ok0 rfl rfl ?_
      refine T.cV0 (As := [rf E 24 0 0]) (st := []) dX8_law_34 lk_X8_164 (c_read E m (2 * 0 + l.toNat) hI (by omega) (fun i hi => faL_ok _ _ _ _ (show faL (m 25 0 0) (m 24 0 0 1).toNat 0 0 = 0 from by assumption) i (Nat.zero_le _) (by omega))) (ok8 (by omega)) rfl rfl (by decide) rfl rfl (Nat.le_of_ble_eq_true rfl) ?_
      refine T.aload_n dX8_law_37 rfl ?_
      refine T.mget (v := rf E 24 0 0) dX8_law_38 fo_X8_43 ok0 rfl rfl ?_
      refine T.iconst dX8_law_41 ?_
      refine T.mputI dX8_law_42 fp_X8_142 ok24 rfl rfl (Nat.le_of_ble_eq_true rfl) ?_
      refine T.iload_n dX8_law_45 rfl ?_
      refine T.if_ne 64 dX8_law_46 (by unfold rg; omega) (fun c5 => ?_) (fun c5 => ?_)
      · refine T.iload_n dX8_law_64 rfl ?_
        exfalso; omega
      · refine T.aload_n dX8_law_49 rfl ?_
        refine T.mget (v := rf E 1 0 0) dX8_law_50 fo_X8_10 ok0 rfl rfl ?_
        refine T.mget (v := rf E 4 0 0) dX8_law_53 fo_X8_160 (ok1 (by decide)) rfl rfl ?_
        refine T.iload_n dX8_law_56 rfl ?_
        refine T.mald (C := RX3) (x := l.toNat) dX8_law_57 (ok4 (by decide)) (fun _ => rfl) rfl (by omega) (by omega) ?_
        refine T.gI (z := (readM m (2 * 0 + l.toNat)) 8 (2 * 0 + l.toNat) 0 1) dX8_law_58 fo_X8_170 (ok8 (by omega)) rfl rfl rfl ?_
        refine T.goto 65 dX8_law_61 ?_
        exact T.iret dX8_law_65 ⟨congrArg (fun z => some (Value.int (iI z))) (Eq.symm (show lawR m l = (readM m (2 * 0 + l.toNat)) 8 (2 * 0 + l.toNat) 0 1 from by unfold lawR; rw [if_neg (by omega), if_pos (by omega)])), congrArg (hp E) (Eq.symm (show lawM m l = (up (readM m (2 * 0 + l.toNat)) 24 0 0 1 0) from by unfold lawM; rw [if_neg (by omega), if_pos (by omega)]))⟩
  · refine T.iconst dX8_law_7 ?_
    exact T.iret dX8_law_8 ⟨congrArg (fun z => some (Value.int (iI z))) (Eq.symm (show lawR m l = (-1) from by unfold lawR; rw [if_pos (by omega)])), congrArg (hp E) (Eq.symm (show lawM m l = m from by unfold lawM; rw [if_pos (by omega)]))⟩
