/-- the model's book, as the class's: 0 whole, 1 since, 2 due, 3 rate, 4 itself, 5 pledge, 6 stands, 7 time; 8 day, 9 whole, 10 word, 11 answer; 12, 13 how many -/
def bkM (S : PS) : PS := fun f d => match f with
  | 0 => S 31 (8 * d)
  | 1 => S 31 (8 * d + 1)
  | 2 => S 31 (8 * d + 2)
  | 3 => S 31 (8 * d + 3)
  | 4 => S 31 (8 * d + 4)
  | 5 => S 31 (8 * d + 5)
  | 6 => S 31 (8 * d + 6)
  | 7 => S 31 (8 * d + 7)
  | 8 => S 33 (4 * d)
  | 9 => S 33 (4 * d + 1)
  | 10 => S 33 (4 * d + 2)
  | 11 => S 33 (4 * d + 3)
  | 12 => S 29 0
  | 13 => S 29 2
  | _ => 0
def hmL (f : Nat → Int) (c : Int) : Nat → Bool
  | 0 => false
  | k + 1 => hmL f c k || decide (f k = c)
abbrev hasM (S : PS) (l : Nat) (c : Int) : Prop := hmL (fun k => S 36 (12 * l + k)) c (S 37 l).toNat = true
set_option maxHeartbeats 4000000 in
set_option maxRecDepth 100000 in
theorem n_in (E : Ev) (h : Hp) {v a b : Int} (hv : rl v) (ha : rl a) (hb : rl b) : CT E 1 mX9_in [.long (lI v), .long (lI a), .long (lI b)] h (some (.int (iI (bZ (a ≤ v ∧ v ≤ b))))) h := by
  refine CT.go okX9_in (Nat.le_of_ble_eq_true rfl) ?_
  show T E 1 mX9_in 0 [some (.long (lI v)), none, some (.long (lI a)), none, some (.long (lI b)), none] [] h _
  unfold rl at hv ha hb
  refine T.lload_n dX9_in_0 rfl ?_
  refine T.lload_n dX9_in_1 rfl ?_
  refine T.lcmp_lt 17 dX9_in_2 dX9_in_3 (by unfold rl; omega) (by unfold rl; omega) (fun c1 => ?_) (fun c1 => ?_)
  · refine T.iconst dX9_in_17 ?_
    exact T.zret dX9_in_18 (narZ (Or.inl rfl)) ⟨by rw [bZ_f (by omega)], rfl⟩
  · refine T.lload_n dX9_in_6 rfl ?_
    refine T.lload dX9_in_7 rfl ?_
    refine T.lcmp_gt 17 dX9_in_9 dX9_in_10 (by unfold rl; omega) (by unfold rl; omega) (fun c2 => ?_) (fun c2 => ?_)
    · refine T.iconst dX9_in_17 ?_
      exact T.zret dX9_in_18 (narZ (Or.inl rfl)) ⟨by rw [bZ_f (by omega)], rfl⟩
    · refine T.iconst dX9_in_13 ?_
      refine T.goto 18 dX9_in_14 ?_
      exact T.zret dX9_in_18 (narZ (Or.inr rfl)) ⟨by rw [bZ_t (by omega)], rfl⟩
set_option maxHeartbeats 4000000 in
set_option maxRecDepth 100000 in
theorem n_isDay (E : Ev) (h : Hp) {v : Int} (hv : rg v) : CT E 2 mX9_isDay [.int (iI v)] h (some (.int (iI (bZ (0 ≤ v ∧ v ≤ 299))))) h := by
  refine CT.go okX9_isDay (Nat.le_of_ble_eq_true rfl) ?_
  show T E 2 mX9_isDay 0 [some (.int (iI v))] [] h _
  unfold rg at hv
  refine T.iload_n dX9_isDay_0 rfl ?_
  refine T.i2l dX9_isDay_1 (by unfold rg; omega) ?_
  refine T.lconst0 dX9_isDay_2 ?_
  refine T.ldc2 dX9_isDay_3 kl_X9_81 ?_
  refine T.cS1 (As := [.long (lI v), .long (lI 0), .long (lI 299)]) (st := []) dX9_isDay_6 lk_X9_83 (n_in E _ (by unfold rl; omega) (by unfold rl; omega) (by unfold rl; omega)) (by decide) rfl rfl (Nat.le_of_ble_eq_true rfl) ?_
  exact T.zret dX9_isDay_9 (narZ (bZ_01 _)) ⟨by first | rfl | (congr 3; exact bZ_iff (by omega)), rfl⟩
set_option maxHeartbeats 4000000 in
set_option maxRecDepth 100000 in
theorem n_isLaw (E : Ev) (h : Hp) {v : Int} (hv : rg v) : CT E 2 mX9_isLaw [.int (iI v)] h (some (.int (iI (bZ (0 ≤ v ∧ v ≤ 1))))) h := by
  refine CT.go okX9_isLaw (Nat.le_of_ble_eq_true rfl) ?_
  show T E 2 mX9_isLaw 0 [some (.int (iI v))] [] h _
  unfold rg at hv
  refine T.iload_n dX9_isLaw_0 rfl ?_
  refine T.i2l dX9_isLaw_1 (by unfold rg; omega) ?_
  refine T.lconst0 dX9_isLaw_2 ?_
  refine T.lconst1 dX9_isLaw_3 ?_
  refine T.cS1 (As := [.long (lI v), .long (lI 0), .long (lI 1)]) (st := []) dX9_isLaw_4 lk_X9_83 (n_in E _ (by unfold rl; omega) (by unfold rl; omega) (by unfold rl; omega)) (by decide) rfl rfl (Nat.le_of_ble_eq_true rfl) ?_
  exact T.zret dX9_isLaw_7 (narZ (bZ_01 _)) ⟨by first | rfl | (congr 3; exact bZ_iff (by omega)), rfl⟩
set_option maxHeartbeats 4000000 in
set_option maxRecDepth 100000 in
theorem n_isSheet (E : Ev) (h : Hp) {v a : Int} (hv : rg v) (ha : rg a) : CT E 2 mX9_isSheet [.int (iI v), .int (iI a)] h (some (.int (iI (bZ ((0 ≤ v ∧ v ≤ 3) ∧ 0 ≤ a ∧ a ≤ 2))))) h := by
  refine CT.go okX9_isSheet (Nat.le_of_ble_eq_true rfl) ?_
  show T E 2 mX9_isSheet 0 [some (.int (iI v)), some (.int (iI a))] [] h _
  unfold rg at hv ha
  refine T.iload_n dX9_isSheet_0 rfl ?_
  refine T.i2l dX9_isSheet_1 (by unfold rg; omega) ?_
  refine T.lconst0 dX9_isSheet_2 ?_
  refine T.ldc2 dX9_isSheet_3 kl_X9_116 ?_
  refine T.cS1 (As := [.long (lI v), .long (lI 0), .long (lI 3)]) (st := []) dX9_isSheet_6 lk_X9_83 (n_in E _ (by unfold rl; omega) (by unfold rl; omega) (by unfold rl; omega)) (by decide) rfl rfl (Nat.le_of_ble_eq_true rfl) ?_
  refine T.ifB_eq 28 dX9_isSheet_9 (fun c1 => ?_) (fun c1 => ?_)
  · refine T.iconst dX9_isSheet_28 ?_
    exact T.zret dX9_isSheet_29 (narZ (Or.inl rfl)) ⟨by rw [bZ_f (by omega)], rfl⟩
  · refine T.iload_n dX9_isSheet_12 rfl ?_
    refine T.i2l dX9_isSheet_13 (by unfold rg; omega) ?_
    refine T.lconst0 dX9_isSheet_14 ?_
    refine T.ldc2 dX9_isSheet_15 kl_X9_193 ?_
    refine T.cS1 (As := [.long (lI a), .long (lI 0), .long (lI 2)]) (st := []) dX9_isSheet_18 lk_X9_83 (n_in E _ (by unfold rl; omega) (by unfold rl; omega) (by unfold rl; omega)) (by decide) rfl rfl (Nat.le_of_ble_eq_true rfl) ?_
    refine T.ifB_eq 28 dX9_isSheet_21 (fun c2 => ?_) (fun c2 => ?_)
    · refine T.iconst dX9_isSheet_28 ?_
      exact T.zret dX9_isSheet_29 (narZ (Or.inl rfl)) ⟨by rw [bZ_f (by omega)], rfl⟩
    · refine T.iconst dX9_isSheet_24 ?_
      refine T.goto 29 dX9_isSheet_25 ?_
      exact T.zret dX9_isSheet_29 (narZ (Or.inr rfl)) ⟨by rw [bZ_t (by omega)], rfl⟩
set_option maxHeartbeats 4000000 in
set_option maxRecDepth 100000 in
theorem n_isDebt (E : Ev) (m : Mem) (S : PS) {d : Int} (hS : InvS kM S) (hd : rg d) : CT E 2 mX9_isDebt [rf E 29 0 0, .int (iI d)] (hp E (wrM m S)) (some (.int (iI (bZ (0 ≤ d ∧ d ≤ S 29 0 - 1))))) (hp E (wrM m S)) := by
  refine CT.go okX9_isDebt (Nat.le_of_ble_eq_true rfl) ?_
  show T E 2 mX9_isDebt 0 [some (rf E 29 0 0), some (.int (iI d))] [] (hp E (wrM m S)) _
  unfold rg at hd
  refine T.iload_n dX9_isDebt_0 rfl ?_
  refine T.i2l dX9_isDebt_1 (by unfold rg; omega) ?_
  refine T.lconst0 dX9_isDebt_2 ?_
  refine T.aload_n dX9_isDebt_3 rfl ?_
  refine T.gI (z := S 29 0) dX9_isDebt_4 fo_X9_87 ok29 rfl rfl (wrM_c rfl) ?_
  have q1 : 0 ≤ S 29 0 ∧ S 29 0 ≤ 8 := hS 29 0 rfl
  refine T.iconst dX9_isDebt_7 ?_
  refine T.isub dX9_isDebt_8 ?_
  refine T.i2l dX9_isDebt_9 (by unfold rg; omega) ?_
  refine T.cS1 (As := [.long (lI d), .long (lI 0), .long (lI ((S 29 0) - 1))]) (st := []) dX9_isDebt_10 lk_X9_83 (n_in E _ (by unfold rl; omega) (by unfold rl; omega) (by unfold rl; omega)) (by decide) rfl rfl (Nat.le_of_ble_eq_true rfl) ?_
  exact T.zret dX9_isDebt_13 (narZ (bZ_01 _)) ⟨by first | rfl | (congr 3; exact bZ_iff (by omega)), rfl⟩
set_option maxHeartbeats 4000000 in
set_option maxRecDepth 100000 in
theorem n_isPayment (E : Ev) (m : Mem) (S : PS) {d : Int} (hS : InvS kM S) (hd : rg d) : CT E 2 mX9_isPayment [rf E 29 0 0, .int (iI d)] (hp E (wrM m S)) (some (.int (iI (bZ (0 ≤ d ∧ d ≤ S 29 2 - 1))))) (hp E (wrM m S)) := by
  refine CT.go okX9_isPayment (Nat.le_of_ble_eq_true rfl) ?_
  show T E 2 mX9_isPayment 0 [some (rf E 29 0 0), some (.int (iI d))] [] (hp E (wrM m S)) _
  unfold rg at hd
  refine T.iload_n dX9_isPayment_0 rfl ?_
  refine T.i2l dX9_isPayment_1 (by unfold rg; omega) ?_
  refine T.lconst0 dX9_isPayment_2 ?_
  refine T.aload_n dX9_isPayment_3 rfl ?_
  refine T.gI (z := S 29 2) dX9_isPayment_4 fo_X9_91 ok29 rfl rfl (wrM_c rfl) ?_
  have q1 : 0 ≤ S 29 2 ∧ S 29 2 ≤ 12 := hS 29 2 rfl
  refine T.iconst dX9_isPayment_7 ?_
  refine T.isub dX9_isPayment_8 ?_
  refine T.i2l dX9_isPayment_9 (by unfold rg; omega) ?_
  refine T.cS1 (As := [.long (lI d), .long (lI 0), .long (lI ((S 29 2) - 1))]) (st := []) dX9_isPayment_10 lk_X9_83 (n_in E _ (by unfold rl; omega) (by unfold rl; omega) (by unfold rl; omega)) (by decide) rfl rfl (Nat.le_of_ble_eq_true rfl) ?_
  exact T.zret dX9_isPayment_13 (narZ (bZ_01 _)) ⟨by first | rfl | (congr 3; exact bZ_iff (by omega)), rfl⟩
abbrev isLt (c : Int) : Prop := c = 99 ∨ c = 116 ∨ c = 115 ∨ c = 120 ∨ c = 112 ∨ c = 100 ∨ c = 104 ∨ c = 117 ∨ c = 111 ∨ c = 108
set_option maxHeartbeats 4000000 in
set_option maxRecDepth 100000 in
theorem n_isLetter (E : Ev) (h : Hp) {c : Int} (hc : rg c) : CT E 1 mX9_isLetter [.int (iI c)] h (some (.int (iI (bZ (isLt c))))) h := by
  refine CT.go okX9_isLetter (Nat.le_of_ble_eq_true rfl) ?_
  show T E 1 mX9_isLetter 0 [some (.int (iI c))] [] h _
  unfold rg at hc
  refine T.iload_n dX9_isLetter_0 rfl ?_
  refine T.bipush dX9_isLetter_1 ?_
  refine T.icmp_eq 60 dX9_isLetter_3 (by unfold rg; omega) (by unfold rg; omega) (fun c1 => ?_) (fun c1 => ?_)
  · refine T.iconst dX9_isLetter_60 ?_
    refine T.goto 65 dX9_isLetter_61 ?_
    exact T.zret dX9_isLetter_65 (narZ (Or.inr rfl)) ⟨by rw [bZ_t (by unfold isLt; omega)], rfl⟩
  · refine T.iload_n dX9_isLetter_6 rfl ?_
    refine T.bipush dX9_isLetter_7 ?_
    refine T.icmp_eq 60 dX9_isLetter_9 (by unfold rg; omega) (by unfold rg; omega) (fun c2 => ?_) (fun c2 => ?_)
    · refine T.iconst dX9_isLetter_60 ?_
      refine T.goto 65 dX9_isLetter_61 ?_
      exact T.zret dX9_isLetter_65 (narZ (Or.inr rfl)) ⟨by rw [bZ_t (by unfold isLt; omega)], rfl⟩
    · refine T.iload_n dX9_isLetter_12 rfl ?_
      refine T.bipush dX9_isLetter_13 ?_
      refine T.icmp_eq 60 dX9_isLetter_15 (by unfold rg; omega) (by unfold rg; omega) (fun c3 => ?_) (fun c3 => ?_)
      · refine T.iconst dX9_isLetter_60 ?_
        refine T.goto 65 dX9_isLetter_61 ?_
        exact T.zret dX9_isLetter_65 (narZ (Or.inr rfl)) ⟨by rw [bZ_t (by unfold isLt; omega)], rfl⟩
      · refine T.iload_n dX9_isLetter_18 rfl ?_
        refine T.bipush dX9_isLetter_19 ?_
        refine T.icmp_eq 60 dX9_isLetter_21 (by unfold rg; omega) (by unfold rg; omega) (fun c4 => ?_) (fun c4 => ?_)
        · refine T.iconst dX9_isLetter_60 ?_
          refine T.goto 65 dX9_isLetter_61 ?_
          exact T.zret dX9_isLetter_65 (narZ (Or.inr rfl)) ⟨by rw [bZ_t (by unfold isLt; omega)], rfl⟩
        · refine T.iload_n dX9_isLetter_24 rfl ?_
          refine T.bipush dX9_isLetter_25 ?_
          refine T.icmp_eq 60 dX9_isLetter_27 (by unfold rg; omega) (by unfold rg; omega) (fun c5 => ?_) (fun c5 => ?_)
          · refine T.iconst dX9_isLetter_60 ?_
            refine T.goto 65 dX9_isLetter_61 ?_
            exact T.zret dX9_isLetter_65 (narZ (Or.inr rfl)) ⟨by rw [bZ_t (by unfold isLt; omega)], rfl⟩
          · refine T.iload_n dX9_isLetter_30 rfl ?_
            refine T.bipush dX9_isLetter_31 ?_
            refine T.icmp_eq 60 dX9_isLetter_33 (by unfold rg; omega) (by unfold rg; omega) (fun c6 => ?_) (fun c6 => ?_)
            · refine T.iconst dX9_isLetter_60 ?_
              refine T.goto 65 dX9_isLetter_61 ?_
              exact T.zret dX9_isLetter_65 (narZ (Or.inr rfl)) ⟨by rw [bZ_t (by unfold isLt; omega)], rfl⟩
            · refine T.iload_n dX9_isLetter_36 rfl ?_
              refine T.bipush dX9_isLetter_37 ?_
              refine T.icmp_eq 60 dX9_isLetter_39 (by unfold rg; omega) (by unfold rg; omega) (fun c7 => ?_) (fun c7 => ?_)
              · refine T.iconst dX9_isLetter_60 ?_
                refine T.goto 65 dX9_isLetter_61 ?_
                exact T.zret dX9_isLetter_65 (narZ (Or.inr rfl)) ⟨by rw [bZ_t (by unfold isLt; omega)], rfl⟩
              · refine T.iload_n dX9_isLetter_42 rfl ?_
                refine T.bipush dX9_isLetter_43 ?_
                refine T.icmp_eq 60 dX9_isLetter_45 (by unfold rg; omega) (by unfold rg; omega) (fun c8 => ?_) (fun c8 => ?_)
                · refine T.iconst dX9_isLetter_60 ?_
                  refine T.goto 65 dX9_isLetter_61 ?_
                  exact T.zret dX9_isLetter_65 (narZ (Or.inr rfl)) ⟨by rw [bZ_t (by unfold isLt; omega)], rfl⟩
                · refine T.iload_n dX9_isLetter_48 rfl ?_
                  refine T.bipush dX9_isLetter_49 ?_
                  refine T.icmp_eq 60 dX9_isLetter_51 (by unfold rg; omega) (by unfold rg; omega) (fun c9 => ?_) (fun c9 => ?_)
                  · refine T.iconst dX9_isLetter_60 ?_
                    refine T.goto 65 dX9_isLetter_61 ?_
                    exact T.zret dX9_isLetter_65 (narZ (Or.inr rfl)) ⟨by rw [bZ_t (by unfold isLt; omega)], rfl⟩
                  · refine T.iload_n dX9_isLetter_54 rfl ?_
                    refine T.bipush dX9_isLetter_55 ?_
                    refine T.icmp_ne 64 dX9_isLetter_57 (by unfold rg; omega) (by unfold rg; omega) (fun c10 => ?_) (fun c10 => ?_)
                    · refine T.iconst dX9_isLetter_64 ?_
                      exact T.zret dX9_isLetter_65 (narZ (Or.inl rfl)) ⟨by rw [bZ_f (by unfold isLt; omega)], rfl⟩
                    · refine T.iconst dX9_isLetter_60 ?_
                      refine T.goto 65 dX9_isLetter_61 ?_
                      exact T.zret dX9_isLetter_65 (narZ (Or.inr rfl)) ⟨by rw [bZ_t (by unfold isLt; omega)], rfl⟩
def mbeg (S : PS) (n w s u t : Int) : PS := upT (upT (upT (upT (upT (upT (upT (upT S 31 (8 * n).toNat w) 31 (8 * n + 1).toNat s) 31 (8 * n + 2).toNat u) 31 (8 * n + 3).toNat t) 31 (8 * n + 4).toNat 0) 31 (8 * n + 5).toNat (-1)) 31 (8 * n + 6).toNat 0) 31 (8 * n + 7).toNat 0
def ndebtR (S : PS) (w s u t : Int) : Int := if ¬ ((1 ≤ w ∧ w ≤ 9999) ∧ (0 ≤ s ∧ s ≤ 299) ∧ (0 ≤ u ∧ u ≤ 299) ∧ (0 ≤ t ∧ t ≤ 99)) then -1 else if S 29 0 = 8 then -3 else S 29 0
def ndebtS (S : PS) (w s u t : Int) : PS := if ¬ ((1 ≤ w ∧ w ≤ 9999) ∧ (0 ≤ s ∧ s ≤ 299) ∧ (0 ≤ u ∧ u ≤ 299) ∧ (0 ≤ t ∧ t ≤ 99)) then S else if S 29 0 = 8 then S else upT (mbeg S (S 29 0) w s u t) 29 0 (S 29 0 + 1)
set_option maxHeartbeats 4000000 in
set_option maxRecDepth 100000 in
theorem n_debt (E : Ev) (m : Mem) (S : PS) (w s u t : Int) (hS : InvS kM S) (h1 : rg w) (h2 : rg s) (h3 : rg u) (h4 : rg t) : CT E 3 mX9_debt [rf E 29 0 0, .int (iI w), .int (iI s), .int (iI u), .int (iI t)] (hp E (wrM m S)) (some (.int (iI (ndebtR S w s u t)))) (hp E (wrM m (ndebtS S w s u t))) := by
  refine CT.go okX9_debt (Nat.le_of_ble_eq_true rfl) ?_
  show T E 3 mX9_debt 0 [some (rf E 29 0 0), some (.int (iI w)), some (.int (iI s)), some (.int (iI u)), some (.int (iI t)), none] [] (hp E (wrM m S)) _
  unfold rg at h1 h2 h3 h4
  refine T.iload_n dX9_debt_0 rfl ?_
  refine T.i2l dX9_debt_1 (by unfold rg; omega) ?_
  refine T.lconst1 dX9_debt_2 ?_
  refine T.ldc2 dX9_debt_3 kl_X9_94 ?_
  refine T.cS1 (As := [.long (lI w), .long (lI 1), .long (lI 9999)]) (st := []) dX9_debt_6 lk_X9_83 (n_in E _ (by unfold rl; omega) (by unfold rl; omega) (by unfold rl; omega)) (by decide) rfl rfl (Nat.le_of_ble_eq_true rfl) ?_
  refine T.ifB_eq 39 dX9_debt_9 (fun c1 => ?_) (fun c1 => ?_)
  · refine T.iconst dX9_debt_39 ?_
    exact T.iret dX9_debt_40 ⟨congrArg (fun z => some (Value.int (iI z))) (Eq.symm (show ndebtR S w s u t = (-1) from by unfold ndebtR; rw [if_pos (by omega)] <;> first | rfl | omega)), congrArg (fun z => hp E (wrM m z)) (Eq.symm (show ndebtS S w s u t = S from by unfold ndebtS; rw [if_pos (by omega)] <;> rfl))⟩
  · refine T.iload_n dX9_debt_12 rfl ?_
    refine T.cS1 (As := [.int (iI s)]) (st := []) dX9_debt_13 lk_X9_96 (n_isDay E _ (by unfold rg; omega)) (by decide) rfl rfl (Nat.le_of_ble_eq_true rfl) ?_
    refine T.ifB_eq 39 dX9_debt_16 (fun c2 => ?_) (fun c2 => ?_)
    · refine T.iconst dX9_debt_39 ?_
      exact T.iret dX9_debt_40 ⟨congrArg (fun z => some (Value.int (iI z))) (Eq.symm (show ndebtR S w s u t = (-1) from by unfold ndebtR; rw [if_pos (by omega)] <;> first | rfl | omega)), congrArg (fun z => hp E (wrM m z)) (Eq.symm (show ndebtS S w s u t = S from by unfold ndebtS; rw [if_pos (by omega)] <;> rfl))⟩
    · refine T.iload_n dX9_debt_19 rfl ?_
      refine T.cS1 (As := [.int (iI u)]) (st := []) dX9_debt_20 lk_X9_96 (n_isDay E _ (by unfold rg; omega)) (by decide) rfl rfl (Nat.le_of_ble_eq_true rfl) ?_
      refine T.ifB_eq 39 dX9_debt_23 (fun c3 => ?_) (fun c3 => ?_)
      · refine T.iconst dX9_debt_39 ?_
        exact T.iret dX9_debt_40 ⟨congrArg (fun z => some (Value.int (iI z))) (Eq.symm (show ndebtR S w s u t = (-1) from by unfold ndebtR; rw [if_pos (by omega)] <;> first | rfl | omega)), congrArg (fun z => hp E (wrM m z)) (Eq.symm (show ndebtS S w s u t = S from by unfold ndebtS; rw [if_pos (by omega)] <;> rfl))⟩
      · refine T.iload dX9_debt_26 rfl ?_
        refine T.i2l dX9_debt_28 (by unfold rg; omega) ?_
        refine T.lconst0 dX9_debt_29 ?_
        refine T.ldc2 dX9_debt_30 kl_X9_100 ?_
        refine T.cS1 (As := [.long (lI t), .long (lI 0), .long (lI 99)]) (st := []) dX9_debt_33 lk_X9_83 (n_in E _ (by unfold rl; omega) (by unfold rl; omega) (by unfold rl; omega)) (by decide) rfl rfl (Nat.le_of_ble_eq_true rfl) ?_
        refine T.ifB_ne 41 dX9_debt_36 (fun c4 => ?_) (fun c4 => ?_)
        · refine T.aload_n dX9_debt_41 rfl ?_
          refine T.gI (z := S 29 0) dX9_debt_42 fo_X9_87 ok29 rfl rfl (wrM_c rfl) ?_
          have q5 : 0 ≤ S 29 0 ∧ S 29 0 ≤ 8 := hS 29 0 rfl
          refine T.bipush dX9_debt_45 ?_
          refine T.icmp_ne 53 dX9_debt_47 (by unfold rg; omega) (by unfold rg; omega) (fun c6 => ?_) (fun c6 => ?_)
          · refine T.bipush dX9_debt_53 ?_
            refine T.aload_n dX9_debt_55 rfl ?_
            refine T.gI (z := S 29 0) dX9_debt_56 fo_X9_87 ok29 rfl rfl (wrM_c rfl) ?_
            refine T.imul dX9_debt_59 ?_
            refine T.istore (ls' := [some (rf E 29 0 0), some (.int (iI w)), some (.int (iI s)), some (.int (iI u)), some (.int (iI t)), some (.int (iI (8 * (S 29 0))))]) dX9_debt_60 rfl ?_
            refine T.aload_n dX9_debt_62 rfl ?_
            refine T.mget (v := rf E 31 0 0) dX9_debt_63 fo_X9_7 ok29 rfl rfl ?_
            refine T.iload dX9_debt_66 rfl ?_
            refine T.iload_n dX9_debt_68 rfl ?_
            refine T.nist (x := (8 * (S 29 0)).toNat) dX9_debt_69 rfl ok31 (fun _ => rfl) (by omega) (by omega) ?_
            refine T.aload_n dX9_debt_70 rfl ?_
            refine T.mget (v := rf E 31 0 0) dX9_debt_71 fo_X9_7 ok29 rfl rfl ?_
            refine T.iload dX9_debt_74 rfl ?_
            refine T.iconst dX9_debt_76 ?_
            refine T.iadd dX9_debt_77 ?_
            refine T.iload_n dX9_debt_78 rfl ?_
            refine T.nist (x := ((8 * (S 29 0)) + 1).toNat) dX9_debt_79 rfl ok31 (fun _ => rfl) (by omega) (by omega) ?_
            refine T.aload_n dX9_debt_80 rfl ?_
            refine T.mget (v := rf E 31 0 0) dX9_debt_81 fo_X9_7 ok29 rfl rfl ?_
            refine T.iload dX9_debt_84 rfl ?_
            refine T.iconst dX9_debt_86 ?_
            refine T.iadd dX9_debt_87 ?_
            refine T.iload_n dX9_debt_88 rfl ?_
            refine T.nist (x := ((8 * (S 29 0)) + 2).toNat) dX9_debt_89 rfl ok31 (fun _ => rfl) (by omega) (by omega) ?_
            refine T.aload_n dX9_debt_90 rfl ?_
            refine T.mget (v := rf E 31 0 0) dX9_debt_91 fo_X9_7 ok29 rfl rfl ?_
            refine T.iload dX9_debt_94 rfl ?_
            refine T.iconst dX9_debt_96 ?_
            refine T.iadd dX9_debt_97 ?_
            refine T.iload dX9_debt_98 rfl ?_
            refine T.nist (x := ((8 * (S 29 0)) + 3).toNat) dX9_debt_100 rfl ok31 (fun _ => rfl) (by omega) (by omega) ?_
            refine T.aload_n dX9_debt_101 rfl ?_
            refine T.mget (v := rf E 31 0 0) dX9_debt_102 fo_X9_7 ok29 rfl rfl ?_
            refine T.iload dX9_debt_105 rfl ?_
            refine T.iconst dX9_debt_107 ?_
            refine T.iadd dX9_debt_108 ?_
            refine T.iconst dX9_debt_109 ?_
            refine T.nist (x := ((8 * (S 29 0)) + 4).toNat) dX9_debt_110 rfl ok31 (fun _ => rfl) (by omega) (by omega) ?_
            refine T.aload_n dX9_debt_111 rfl ?_
            refine T.mget (v := rf E 31 0 0) dX9_debt_112 fo_X9_7 ok29 rfl rfl ?_
            refine T.iload dX9_debt_115 rfl ?_
            refine T.iconst dX9_debt_117 ?_
            refine T.iadd dX9_debt_118 ?_
            refine T.iconst dX9_debt_119 ?_
            refine T.nist (x := ((8 * (S 29 0)) + 5).toNat) dX9_debt_120 rfl ok31 (fun _ => rfl) (by omega) (by omega) ?_
            refine T.aload_n dX9_debt_121 rfl ?_
            refine T.mget (v := rf E 31 0 0) dX9_debt_122 fo_X9_7 ok29 rfl rfl ?_
            refine T.iload dX9_debt_125 rfl ?_
            refine T.bipush dX9_debt_127 ?_
            refine T.iadd dX9_debt_129 ?_
            refine T.iconst dX9_debt_130 ?_
            refine T.nist (x := ((8 * (S 29 0)) + 6).toNat) dX9_debt_131 rfl ok31 (fun _ => rfl) (by omega) (by omega) ?_
            refine T.aload_n dX9_debt_132 rfl ?_
            refine T.mget (v := rf E 31 0 0) dX9_debt_133 fo_X9_7 ok29 rfl rfl ?_
            refine T.iload dX9_debt_136 rfl ?_
            refine T.bipush dX9_debt_138 ?_
            refine T.iadd dX9_debt_140 ?_
            refine T.iconst dX9_debt_141 ?_
            refine T.nist (x := ((8 * (S 29 0)) + 7).toNat) dX9_debt_142 rfl ok31 (fun _ => rfl) (by omega) (by omega) ?_
            refine T.aload_n dX9_debt_143 rfl ?_
            refine T.dup dX9_debt_144 ?_
            refine T.gI (z := S 29 0) dX9_debt_145 fo_X9_87 ok29 rfl rfl ((wrM_c rfl).trans (by simp [upT])) ?_
            refine T.iconst dX9_debt_148 ?_
            refine T.iadd dX9_debt_149 ?_
            refine T.nputI dX9_debt_150 fp_X9_87 rfl ok29 rfl rfl (Nat.le_of_ble_eq_true rfl) ?_
            refine T.aload_n dX9_debt_153 rfl ?_
            refine T.gI (z := (S 29 0) + 1) dX9_debt_154 fo_X9_87 ok29 rfl rfl ((wrM_c rfl).trans (by simp [upT])) ?_
            refine T.iconst dX9_debt_157 ?_
            refine T.isub dX9_debt_158 ?_
            exact T.iret dX9_debt_159 ⟨congrArg (fun z => some (Value.int (iI z))) (Eq.symm (show ndebtR S w s u t = ((S 29 0) + 1) - 1 from by unfold ndebtR; rw [if_neg (by omega), if_neg (by omega)] <;> first | rfl | omega)), congrArg (fun z => hp E (wrM m z)) (Eq.symm (show ndebtS S w s u t = (upT (upT (upT (upT (upT (upT (upT (upT (upT S 31 ((8 * (S 29 0)).toNat) w) 31 (((8 * (S 29 0)) + 1).toNat) s) 31 (((8 * (S 29 0)) + 2).toNat) u) 31 (((8 * (S 29 0)) + 3).toNat) t) 31 (((8 * (S 29 0)) + 4).toNat) 0) 31 (((8 * (S 29 0)) + 5).toNat) (-1)) 31 (((8 * (S 29 0)) + 6).toNat) 0) 31 (((8 * (S 29 0)) + 7).toNat) 0) 29 0 ((S 29 0) + 1)) from by unfold ndebtS; rw [if_neg (by omega), if_neg (by omega)] <;> rfl))⟩
          · refine T.bipush dX9_debt_50 ?_
            exact T.iret dX9_debt_52 ⟨congrArg (fun z => some (Value.int (iI z))) (Eq.symm (show ndebtR S w s u t = (-3) from by unfold ndebtR; rw [if_neg (by omega), if_pos (by omega)] <;> first | rfl | omega)), congrArg (fun z => hp E (wrM m z)) (Eq.symm (show ndebtS S w s u t = S from by unfold ndebtS; rw [if_neg (by omega), if_pos (by omega)] <;> rfl))⟩
        · refine T.iconst dX9_debt_39 ?_
          exact T.iret dX9_debt_40 ⟨congrArg (fun z => some (Value.int (iI z))) (Eq.symm (show ndebtR S w s u t = (-1) from by unfold ndebtR; rw [if_pos (by omega)] <;> first | rfl | omega)), congrArg (fun z => hp E (wrM m z)) (Eq.symm (show ndebtS S w s u t = S from by unfold ndebtS; rw [if_pos (by omega)] <;> rfl))⟩
def nsetR (S : PS) (d t v : Int) : Int := if ¬ ((0 ≤ d ∧ d ≤ S 29 0 - 1) ∧ (0 ≤ t ∧ t ≤ 5)) then -1 else if ¬ (((t = 0 ∨ t = 2) ∧ (0 ≤ v ∧ v ≤ 1)) ∨ (t = 1 ∧ (-1 ≤ v ∧ v ≤ 5)) ∨ (t = 4 ∧ (0 ≤ v ∧ v ≤ 99)) ∨ ((t = 3 ∨ t = 5) ∧ (0 ≤ v ∧ v ≤ 299))) then -1 else if t = 0 then S 31 (8 * d + 4).toNat else if t = 1 then S 31 (8 * d + 5).toNat else if t = 2 then S 31 (8 * d + 6).toNat else if t = 3 then S 31 (8 * d + 7).toNat else if t = 4 then S 31 (8 * d + 3).toNat else S 31 (8 * d + 2).toNat
def nsetS (S : PS) (d t v : Int) : PS := if ¬ ((0 ≤ d ∧ d ≤ S 29 0 - 1) ∧ (0 ≤ t ∧ t ≤ 5)) then S else if ¬ (((t = 0 ∨ t = 2) ∧ (0 ≤ v ∧ v ≤ 1)) ∨ (t = 1 ∧ (-1 ≤ v ∧ v ≤ 5)) ∨ (t = 4 ∧ (0 ≤ v ∧ v ≤ 99)) ∨ ((t = 3 ∨ t = 5) ∧ (0 ≤ v ∧ v ≤ 299))) then S else if t = 0 then upT S 31 (8 * d + 4).toNat v else if t = 1 then upT S 31 (8 * d + 5).toNat v else if t = 2 then upT S 31 (8 * d + 6).toNat v else if t = 3 then upT S 31 (8 * d + 7).toNat v else if t = 4 then upT S 31 (8 * d + 3).toNat v else upT S 31 (8 * d + 2).toNat v
set_option maxHeartbeats 4000000 in
set_option maxRecDepth 100000 in
theorem n_set (E : Ev) (m : Mem) (S : PS) (d t v : Int) (hS : InvS kM S) (h1 : rg d) (h2 : rg t) (h3 : rg v) : CT E 3 mX9_set [rf E 29 0 0, .int (iI d), .int (iI t), .int (iI v)] (hp E (wrM m S)) (some (.int (iI (nsetR S d t v)))) (hp E (wrM m (nsetS S d t v))) := by
  refine CT.go okX9_set (Nat.le_of_ble_eq_true rfl) ?_
  show T E 3 mX9_set 0 [some (rf E 29 0 0), some (.int (iI d)), some (.int (iI t)), some (.int (iI v)), none, none, none] [] (hp E (wrM m S)) _
  unfold rg at h1 h2 h3
  refine T.aload_n dX9_set_0 rfl ?_
  refine T.iload_n dX9_set_1 rfl ?_
  refine T.cV1 (As := [.int (iI d)]) (st := []) dX9_set_2 lk_X9_102 (n_isDebt E m S hS (by unfold rg; omega)) ok29 rfl rfl (by decide) rfl rfl (Nat.le_of_ble_eq_true rfl) ?_
  have n1 : (0 ≤ S 29 0 ∧ S 29 0 ≤ 8) ∧ 0 ≤ S 29 2 ∧ S 29 2 ≤ 12 := ⟨hS 29 0 rfl, hS 29 2 rfl⟩
  refine T.ifB_eq 20 dX9_set_5 (fun c2 => ?_) (fun c2 => ?_)
  · refine T.iconst dX9_set_20 ?_
    exact T.iret dX9_set_21 ⟨congrArg (fun z => some (Value.int (iI z))) (Eq.symm (show nsetR S d t v = (-1) from by unfold nsetR; rw [if_pos (by omega)] <;> first | rfl | omega)), congrArg (fun z => hp E (wrM m z)) (Eq.symm (show nsetS S d t v = S from by unfold nsetS; rw [if_pos (by omega)] <;> rfl))⟩
  · refine T.iload_n dX9_set_8 rfl ?_
    refine T.i2l dX9_set_9 (by unfold rg; omega) ?_
    refine T.lconst0 dX9_set_10 ?_
    refine T.ldc2 dX9_set_11 kl_X9_105 ?_
    refine T.cS1 (As := [.long (lI t), .long (lI 0), .long (lI 5)]) (st := []) dX9_set_14 lk_X9_83 (n_in E _ (by unfold rl; omega) (by unfold rl; omega) (by unfold rl; omega)) (by decide) rfl rfl (Nat.le_of_ble_eq_true rfl) ?_
    refine T.ifB_ne 22 dX9_set_17 (fun c3 => ?_) (fun c3 => ?_)
    · refine T.iload_n dX9_set_22 rfl ?_
      refine T.if_eq 31 dX9_set_23 (by unfold rg; omega) (fun c4 => ?_) (fun c4 => ?_)
      · refine T.iload_n dX9_set_31 rfl ?_
        refine T.i2l dX9_set_32 (by unfold rg; omega) ?_
        refine T.lconst0 dX9_set_33 ?_
        refine T.lconst1 dX9_set_34 ?_
        refine T.cS1 (As := [.long (lI v), .long (lI 0), .long (lI 1)]) (st := []) dX9_set_35 lk_X9_83 (n_in E _ (by unfold rl; omega) (by unfold rl; omega) (by unfold rl; omega)) (by decide) rfl rfl (Nat.le_of_ble_eq_true rfl) ?_
        refine T.goto 81 dX9_set_38 ?_
        refine T.istore (ls' := [some (rf E 29 0 0), some (.int (iI d)), some (.int (iI t)), some (.int (iI v)), some (.int (iI (bZ (0 ≤ v ∧ v ≤ 1)))), none, none]) dX9_set_81 rfl ?_
        refine T.iload dX9_set_83 rfl ?_
        refine T.ifB_ne 90 dX9_set_85 (fun c5 => ?_) (fun c5 => ?_)
        · refine T.bipush dX9_set_90 ?_
          refine T.iload_n dX9_set_92 rfl ?_
          refine T.imul dX9_set_93 ?_
          refine T.iload_n dX9_set_94 rfl ?_
          refine T.if_ne 102 dX9_set_95 (by unfold rg; omega) (fun c6 => ?_) (fun c6 => ?_)
          · refine T.iload_n dX9_set_102 rfl ?_
            refine T.iconst dX9_set_103 ?_
            refine T.icmp_ne 111 dX9_set_104 (by unfold rg; omega) (by unfold rg; omega) (fun c7 => ?_) (fun c7 => ?_)
            · refine T.iload_n dX9_set_111 rfl ?_
              refine T.iconst dX9_set_112 ?_
              refine T.icmp_ne 121 dX9_set_113 (by unfold rg; omega) (by unfold rg; omega) (fun c8 => ?_) (fun c8 => ?_)
              · refine T.iload_n dX9_set_121 rfl ?_
                refine T.iconst dX9_set_122 ?_
                refine T.icmp_ne 131 dX9_set_123 (by unfold rg; omega) (by unfold rg; omega) (fun c9 => ?_) (fun c9 => ?_)
                · refine T.iload_n dX9_set_131 rfl ?_
                  refine T.iconst dX9_set_132 ?_
                  refine T.icmp_ne 140 dX9_set_133 (by unfold rg; omega) (by unfold rg; omega) (fun c10 => ?_) (fun c10 => ?_)
                  · refine T.iconst dX9_set_140 ?_
                    refine T.iadd dX9_set_141 ?_
                    refine T.istore (ls' := [some (rf E 29 0 0), some (.int (iI d)), some (.int (iI t)), some (.int (iI v)), some (.int (iI (bZ (0 ≤ v ∧ v ≤ 1)))), some (.int (iI ((8 * d) + 2))), none]) dX9_set_142 rfl ?_
                    refine T.aload_n dX9_set_144 rfl ?_
                    refine T.mget (v := rf E 31 0 0) dX9_set_145 fo_X9_7 ok29 rfl rfl ?_
                    refine T.iload dX9_set_148 rfl ?_
                    refine T.aI (z := S 31 ((8 * d + 2).toNat)) (x := (8 * d + 2).toNat) dX9_set_150 ok31 (fun _ => rfl) (by omega) (by omega) (wrM_c rfl) ?_
                    have q11 : -1 ≤ S 31 ((8 * d + 2).toNat) ∧ S 31 ((8 * d + 2).toNat) ≤ 9999 := hS 31 ((8 * d + 2).toNat) rfl
                    refine T.istore (ls' := [some (rf E 29 0 0), some (.int (iI d)), some (.int (iI t)), some (.int (iI v)), some (.int (iI (bZ (0 ≤ v ∧ v ≤ 1)))), some (.int (iI ((8 * d) + 2))), some (.int (iI (S 31 ((8 * d + 2).toNat))))]) dX9_set_151 rfl ?_
                    refine T.aload_n dX9_set_153 rfl ?_
                    refine T.mget (v := rf E 31 0 0) dX9_set_154 fo_X9_7 ok29 rfl rfl ?_
                    refine T.iload dX9_set_157 rfl ?_
                    refine T.iload_n dX9_set_159 rfl ?_
                    refine T.nist (x := (8 * d + 2).toNat) dX9_set_160 rfl ok31 (fun _ => rfl) (by omega) (by omega) ?_
                    refine T.iload dX9_set_161 rfl ?_
                    exact T.iret dX9_set_163 ⟨congrArg (fun z => some (Value.int (iI z))) (Eq.symm (show nsetR S d t v = S 31 ((8 * d + 2).toNat) from by unfold nsetR; rw [if_neg (by omega), if_neg (by omega), if_neg (by omega), if_neg (by omega), if_neg (by omega), if_neg (by omega), if_neg (by omega)] <;> first | rfl | omega)), congrArg (fun z => hp E (wrM m z)) (Eq.symm (show nsetS S d t v = (upT S 31 ((8 * d + 2).toNat) v) from by unfold nsetS; rw [if_neg (by omega), if_neg (by omega), if_neg (by omega), if_neg (by omega), if_neg (by omega), if_neg (by omega), if_neg (by omega)] <;> rfl))⟩
                  · refine T.iconst dX9_set_136 ?_
                    refine T.goto 141 dX9_set_137 ?_
                    refine T.iadd dX9_set_141 ?_
                    refine T.istore (ls' := [some (rf E 29 0 0), some (.int (iI d)), some (.int (iI t)), some (.int (iI v)), some (.int (iI (bZ (0 ≤ v ∧ v ≤ 1)))), some (.int (iI ((8 * d) + 3))), none]) dX9_set_142 rfl ?_
                    refine T.aload_n dX9_set_144 rfl ?_
                    refine T.mget (v := rf E 31 0 0) dX9_set_145 fo_X9_7 ok29 rfl rfl ?_
                    refine T.iload dX9_set_148 rfl ?_
                    refine T.aI (z := S 31 ((8 * d + 3).toNat)) (x := (8 * d + 3).toNat) dX9_set_150 ok31 (fun _ => rfl) (by omega) (by omega) (wrM_c rfl) ?_
                    have q12 : -1 ≤ S 31 ((8 * d + 3).toNat) ∧ S 31 ((8 * d + 3).toNat) ≤ 9999 := hS 31 ((8 * d + 3).toNat) rfl
                    refine T.istore (ls' := [some (rf E 29 0 0), some (.int (iI d)), some (.int (iI t)), some (.int (iI v)), some (.int (iI (bZ (0 ≤ v ∧ v ≤ 1)))), some (.int (iI ((8 * d) + 3))), some (.int (iI (S 31 ((8 * d + 3).toNat))))]) dX9_set_151 rfl ?_
                    refine T.aload_n dX9_set_153 rfl ?_
                    refine T.mget (v := rf E 31 0 0) dX9_set_154 fo_X9_7 ok29 rfl rfl ?_
                    refine T.iload dX9_set_157 rfl ?_
                    refine T.iload_n dX9_set_159 rfl ?_
                    refine T.nist (x := (8 * d + 3).toNat) dX9_set_160 rfl ok31 (fun _ => rfl) (by omega) (by omega) ?_
                    refine T.iload dX9_set_161 rfl ?_
                    exact T.iret dX9_set_163 ⟨congrArg (fun z => some (Value.int (iI z))) (Eq.symm (show nsetR S d t v = S 31 ((8 * d + 3).toNat) from by unfold nsetR; rw [if_neg (by omega), if_neg (by omega), if_neg (by omega), if_neg (by omega), if_neg (by omega), if_neg (by omega), if_pos (by omega)] <;> first | rfl | omega)), congrArg (fun z => hp E (wrM m z)) (Eq.symm (show nsetS S d t v = (upT S 31 ((8 * d + 3).toNat) v) from by unfold nsetS; rw [if_neg (by omega), if_neg (by omega), if_neg (by omega), if_neg (by omega), if_neg (by omega), if_neg (by omega), if_pos (by omega)] <;> rfl))⟩
                · refine T.bipush dX9_set_126 ?_
                  refine T.goto 141 dX9_set_128 ?_
                  refine T.iadd dX9_set_141 ?_
                  refine T.istore (ls' := [some (rf E 29 0 0), some (.int (iI d)), some (.int (iI t)), some (.int (iI v)), some (.int (iI (bZ (0 ≤ v ∧ v ≤ 1)))), some (.int (iI ((8 * d) + 7))), none]) dX9_set_142 rfl ?_
                  refine T.aload_n dX9_set_144 rfl ?_
                  refine T.mget (v := rf E 31 0 0) dX9_set_145 fo_X9_7 ok29 rfl rfl ?_
                  refine T.iload dX9_set_148 rfl ?_
                  refine T.aI (z := S 31 ((8 * d + 7).toNat)) (x := (8 * d + 7).toNat) dX9_set_150 ok31 (fun _ => rfl) (by omega) (by omega) (wrM_c rfl) ?_
                  have q13 : -1 ≤ S 31 ((8 * d + 7).toNat) ∧ S 31 ((8 * d + 7).toNat) ≤ 9999 := hS 31 ((8 * d + 7).toNat) rfl
                  refine T.istore (ls' := [some (rf E 29 0 0), some (.int (iI d)), some (.int (iI t)), some (.int (iI v)), some (.int (iI (bZ (0 ≤ v ∧ v ≤ 1)))), some (.int (iI ((8 * d) + 7))), some (.int (iI (S 31 ((8 * d + 7).toNat))))]) dX9_set_151 rfl ?_
                  refine T.aload_n dX9_set_153 rfl ?_
                  refine T.mget (v := rf E 31 0 0) dX9_set_154 fo_X9_7 ok29 rfl rfl ?_
                  refine T.iload dX9_set_157 rfl ?_
                  refine T.iload_n dX9_set_159 rfl ?_
                  refine T.nist (x := (8 * d + 7).toNat) dX9_set_160 rfl ok31 (fun _ => rfl) (by omega) (by omega) ?_
                  refine T.iload dX9_set_161 rfl ?_
                  exact T.iret dX9_set_163 ⟨congrArg (fun z => some (Value.int (iI z))) (Eq.symm (show nsetR S d t v = S 31 ((8 * d + 7).toNat) from by unfold nsetR; rw [if_neg (by omega), if_neg (by omega), if_neg (by omega), if_neg (by omega), if_neg (by omega), if_pos (by omega)] <;> first | rfl | omega)), congrArg (fun z => hp E (wrM m z)) (Eq.symm (show nsetS S d t v = (upT S 31 ((8 * d + 7).toNat) v) from by unfold nsetS; rw [if_neg (by omega), if_neg (by omega), if_neg (by omega), if_neg (by omega), if_neg (by omega), if_pos (by omega)] <;> rfl))⟩
              · refine T.bipush dX9_set_116 ?_
                refine T.goto 141 dX9_set_118 ?_
                refine T.iadd dX9_set_141 ?_
                refine T.istore (ls' := [some (rf E 29 0 0), some (.int (iI d)), some (.int (iI t)), some (.int (iI v)), some (.int (iI (bZ (0 ≤ v ∧ v ≤ 1)))), some (.int (iI ((8 * d) + 6))), none]) dX9_set_142 rfl ?_
                refine T.aload_n dX9_set_144 rfl ?_
                refine T.mget (v := rf E 31 0 0) dX9_set_145 fo_X9_7 ok29 rfl rfl ?_
                refine T.iload dX9_set_148 rfl ?_
                refine T.aI (z := S 31 ((8 * d + 6).toNat)) (x := (8 * d + 6).toNat) dX9_set_150 ok31 (fun _ => rfl) (by omega) (by omega) (wrM_c rfl) ?_
                have q14 : -1 ≤ S 31 ((8 * d + 6).toNat) ∧ S 31 ((8 * d + 6).toNat) ≤ 9999 := hS 31 ((8 * d + 6).toNat) rfl
                refine T.istore (ls' := [some (rf E 29 0 0), some (.int (iI d)), some (.int (iI t)), some (.int (iI v)), some (.int (iI (bZ (0 ≤ v ∧ v ≤ 1)))), some (.int (iI ((8 * d) + 6))), some (.int (iI (S 31 ((8 * d + 6).toNat))))]) dX9_set_151 rfl ?_
                refine T.aload_n dX9_set_153 rfl ?_
                refine T.mget (v := rf E 31 0 0) dX9_set_154 fo_X9_7 ok29 rfl rfl ?_
                refine T.iload dX9_set_157 rfl ?_
                refine T.iload_n dX9_set_159 rfl ?_
                refine T.nist (x := (8 * d + 6).toNat) dX9_set_160 rfl ok31 (fun _ => rfl) (by omega) (by omega) ?_
                refine T.iload dX9_set_161 rfl ?_
                exact T.iret dX9_set_163 ⟨congrArg (fun z => some (Value.int (iI z))) (Eq.symm (show nsetR S d t v = S 31 ((8 * d + 6).toNat) from by unfold nsetR; rw [if_neg (by omega), if_neg (by omega), if_neg (by omega), if_neg (by omega), if_pos (by omega)] <;> first | rfl | omega)), congrArg (fun z => hp E (wrM m z)) (Eq.symm (show nsetS S d t v = (upT S 31 ((8 * d + 6).toNat) v) from by unfold nsetS; rw [if_neg (by omega), if_neg (by omega), if_neg (by omega), if_neg (by omega), if_pos (by omega)] <;> rfl))⟩
            · refine T.iconst dX9_set_107 ?_
              refine T.goto 141 dX9_set_108 ?_
              refine T.iadd dX9_set_141 ?_
              refine T.istore (ls' := [some (rf E 29 0 0), some (.int (iI d)), some (.int (iI t)), some (.int (iI v)), some (.int (iI (bZ (0 ≤ v ∧ v ≤ 1)))), some (.int (iI ((8 * d) + 5))), none]) dX9_set_142 rfl ?_
              refine T.aload_n dX9_set_144 rfl ?_
              refine T.mget (v := rf E 31 0 0) dX9_set_145 fo_X9_7 ok29 rfl rfl ?_
              refine T.iload dX9_set_148 rfl ?_
              refine T.aI (z := S 31 ((8 * d + 5).toNat)) (x := (8 * d + 5).toNat) dX9_set_150 ok31 (fun _ => rfl) (by omega) (by omega) (wrM_c rfl) ?_
              have q15 : -1 ≤ S 31 ((8 * d + 5).toNat) ∧ S 31 ((8 * d + 5).toNat) ≤ 9999 := hS 31 ((8 * d + 5).toNat) rfl
              refine T.istore (ls' := [some (rf E 29 0 0), some (.int (iI d)), some (.int (iI t)), some (.int (iI v)), some (.int (iI (bZ (0 ≤ v ∧ v ≤ 1)))), some (.int (iI ((8 * d) + 5))), some (.int (iI (S 31 ((8 * d + 5).toNat))))]) dX9_set_151 rfl ?_
              refine T.aload_n dX9_set_153 rfl ?_
              refine T.mget (v := rf E 31 0 0) dX9_set_154 fo_X9_7 ok29 rfl rfl ?_
              refine T.iload dX9_set_157 rfl ?_
              refine T.iload_n dX9_set_159 rfl ?_
              refine T.nist (x := (8 * d + 5).toNat) dX9_set_160 rfl ok31 (fun _ => rfl) (by omega) (by omega) ?_
              refine T.iload dX9_set_161 rfl ?_
              exact T.iret dX9_set_163 ⟨congrArg (fun z => some (Value.int (iI z))) (Eq.symm (show nsetR S d t v = S 31 ((8 * d + 5).toNat) from by unfold nsetR; rw [if_neg (by omega), if_neg (by omega), if_neg (by omega), if_pos (by omega)] <;> first | rfl | omega)), congrArg (fun z => hp E (wrM m z)) (Eq.symm (show nsetS S d t v = (upT S 31 ((8 * d + 5).toNat) v) from by unfold nsetS; rw [if_neg (by omega), if_neg (by omega), if_neg (by omega), if_pos (by omega)] <;> rfl))⟩
          · refine T.iconst dX9_set_98 ?_
            refine T.goto 141 dX9_set_99 ?_
            refine T.iadd dX9_set_141 ?_
            refine T.istore (ls' := [some (rf E 29 0 0), some (.int (iI d)), some (.int (iI t)), some (.int (iI v)), some (.int (iI (bZ (0 ≤ v ∧ v ≤ 1)))), some (.int (iI ((8 * d) + 4))), none]) dX9_set_142 rfl ?_
            refine T.aload_n dX9_set_144 rfl ?_
            refine T.mget (v := rf E 31 0 0) dX9_set_145 fo_X9_7 ok29 rfl rfl ?_
            refine T.iload dX9_set_148 rfl ?_
            refine T.aI (z := S 31 ((8 * d + 4).toNat)) (x := (8 * d + 4).toNat) dX9_set_150 ok31 (fun _ => rfl) (by omega) (by omega) (wrM_c rfl) ?_
            have q16 : -1 ≤ S 31 ((8 * d + 4).toNat) ∧ S 31 ((8 * d + 4).toNat) ≤ 9999 := hS 31 ((8 * d + 4).toNat) rfl
            refine T.istore (ls' := [some (rf E 29 0 0), some (.int (iI d)), some (.int (iI t)), some (.int (iI v)), some (.int (iI (bZ (0 ≤ v ∧ v ≤ 1)))), some (.int (iI ((8 * d) + 4))), some (.int (iI (S 31 ((8 * d + 4).toNat))))]) dX9_set_151 rfl ?_
            refine T.aload_n dX9_set_153 rfl ?_
            refine T.mget (v := rf E 31 0 0) dX9_set_154 fo_X9_7 ok29 rfl rfl ?_
            refine T.iload dX9_set_157 rfl ?_
            refine T.iload_n dX9_set_159 rfl ?_
            refine T.nist (x := (8 * d + 4).toNat) dX9_set_160 rfl ok31 (fun _ => rfl) (by omega) (by omega) ?_
            refine T.iload dX9_set_161 rfl ?_
            exact T.iret dX9_set_163 ⟨congrArg (fun z => some (Value.int (iI z))) (Eq.symm (show nsetR S d t v = S 31 ((8 * d + 4).toNat) from by unfold nsetR; rw [if_neg (by omega), if_neg (by omega), if_pos (by omega)] <;> first | rfl | omega)), congrArg (fun z => hp E (wrM m z)) (Eq.symm (show nsetS S d t v = (upT S 31 ((8 * d + 4).toNat) v) from by unfold nsetS; rw [if_neg (by omega), if_neg (by omega), if_pos (by omega)] <;> rfl))⟩
        · refine T.iconst dX9_set_88 ?_
          exact T.iret dX9_set_89 ⟨congrArg (fun z => some (Value.int (iI z))) (Eq.symm (show nsetR S d t v = (-1) from by unfold nsetR; rw [if_neg (by omega), if_pos (by omega)] <;> first | rfl | omega)), congrArg (fun z => hp E (wrM m z)) (Eq.symm (show nsetS S d t v = S from by unfold nsetS; rw [if_neg (by omega), if_pos (by omega)] <;> rfl))⟩
      · refine T.iload_n dX9_set_26 rfl ?_
        refine T.iconst dX9_set_27 ?_
        refine T.icmp_ne 41 dX9_set_28 (by unfold rg; omega) (by unfold rg; omega) (fun c17 => ?_) (fun c17 => ?_)
        · refine T.iload_n dX9_set_41 rfl ?_
          refine T.iconst dX9_set_42 ?_
          refine T.icmp_ne 60 dX9_set_43 (by unfold rg; omega) (by unfold rg; omega) (fun c18 => ?_) (fun c18 => ?_)
          · refine T.iload_n dX9_set_60 rfl ?_
            refine T.iconst dX9_set_61 ?_
            refine T.icmp_ne 77 dX9_set_62 (by unfold rg; omega) (by unfold rg; omega) (fun c19 => ?_) (fun c19 => ?_)
            · refine T.iload_n dX9_set_77 rfl ?_
              refine T.cS1 (As := [.int (iI v)]) (st := []) dX9_set_78 lk_X9_96 (n_isDay E _ (by unfold rg; omega)) (by decide) rfl rfl (Nat.le_of_ble_eq_true rfl) ?_
              refine T.istore (ls' := [some (rf E 29 0 0), some (.int (iI d)), some (.int (iI t)), some (.int (iI v)), some (.int (iI (bZ (0 ≤ v ∧ v ≤ 299)))), none, none]) dX9_set_81 rfl ?_
              refine T.iload dX9_set_83 rfl ?_
              refine T.ifB_ne 90 dX9_set_85 (fun c20 => ?_) (fun c20 => ?_)
              · refine T.bipush dX9_set_90 ?_
                refine T.iload_n dX9_set_92 rfl ?_
                refine T.imul dX9_set_93 ?_
                refine T.iload_n dX9_set_94 rfl ?_
                refine T.if_ne 102 dX9_set_95 (by unfold rg; omega) (fun c21 => ?_) (fun c21 => ?_)
                · refine T.iload_n dX9_set_102 rfl ?_
                  refine T.iconst dX9_set_103 ?_
                  refine T.icmp_ne 111 dX9_set_104 (by unfold rg; omega) (by unfold rg; omega) (fun c22 => ?_) (fun c22 => ?_)
                  · refine T.iload_n dX9_set_111 rfl ?_
                    refine T.iconst dX9_set_112 ?_
                    refine T.icmp_ne 121 dX9_set_113 (by unfold rg; omega) (by unfold rg; omega) (fun c23 => ?_) (fun c23 => ?_)
                    · refine T.iload_n dX9_set_121 rfl ?_
                      refine T.iconst dX9_set_122 ?_
                      refine T.icmp_ne 131 dX9_set_123 (by unfold rg; omega) (by unfold rg; omega) (fun c24 => ?_) (fun c24 => ?_)
                      · refine T.iload_n dX9_set_131 rfl ?_
                        refine T.iconst dX9_set_132 ?_
                        refine T.icmp_ne 140 dX9_set_133 (by unfold rg; omega) (by unfold rg; omega) (fun c25 => ?_) (fun c25 => ?_)
                        · refine T.iconst dX9_set_140 ?_
                          refine T.iadd dX9_set_141 ?_
                          refine T.istore (ls' := [some (rf E 29 0 0), some (.int (iI d)), some (.int (iI t)), some (.int (iI v)), some (.int (iI (bZ (0 ≤ v ∧ v ≤ 299)))), some (.int (iI ((8 * d) + 2))), none]) dX9_set_142 rfl ?_
                          refine T.aload_n dX9_set_144 rfl ?_
                          refine T.mget (v := rf E 31 0 0) dX9_set_145 fo_X9_7 ok29 rfl rfl ?_
                          refine T.iload dX9_set_148 rfl ?_
                          refine T.aI (z := S 31 ((8 * d + 2).toNat)) (x := (8 * d + 2).toNat) dX9_set_150 ok31 (fun _ => rfl) (by omega) (by omega) (wrM_c rfl) ?_
                          have q26 : -1 ≤ S 31 ((8 * d + 2).toNat) ∧ S 31 ((8 * d + 2).toNat) ≤ 9999 := hS 31 ((8 * d + 2).toNat) rfl
                          refine T.istore (ls' := [some (rf E 29 0 0), some (.int (iI d)), some (.int (iI t)), some (.int (iI v)), some (.int (iI (bZ (0 ≤ v ∧ v ≤ 299)))), some (.int (iI ((8 * d) + 2))), some (.int (iI (S 31 ((8 * d + 2).toNat))))]) dX9_set_151 rfl ?_
                          refine T.aload_n dX9_set_153 rfl ?_
                          refine T.mget (v := rf E 31 0 0) dX9_set_154 fo_X9_7 ok29 rfl rfl ?_
                          refine T.iload dX9_set_157 rfl ?_
                          refine T.iload_n dX9_set_159 rfl ?_
                          refine T.nist (x := (8 * d + 2).toNat) dX9_set_160 rfl ok31 (fun _ => rfl) (by omega) (by omega) ?_
                          refine T.iload dX9_set_161 rfl ?_
                          exact T.iret dX9_set_163 ⟨congrArg (fun z => some (Value.int (iI z))) (Eq.symm (show nsetR S d t v = S 31 ((8 * d + 2).toNat) from by unfold nsetR; rw [if_neg (by omega), if_neg (by omega), if_neg (by omega), if_neg (by omega), if_neg (by omega), if_neg (by omega), if_neg (by omega)] <;> first | rfl | omega)), congrArg (fun z => hp E (wrM m z)) (Eq.symm (show nsetS S d t v = (upT S 31 ((8 * d + 2).toNat) v) from by unfold nsetS; rw [if_neg (by omega), if_neg (by omega), if_neg (by omega), if_neg (by omega), if_neg (by omega), if_neg (by omega), if_neg (by omega)] <;> rfl))⟩
                        · refine T.iconst dX9_set_136 ?_
                          refine T.goto 141 dX9_set_137 ?_
                          refine T.iadd dX9_set_141 ?_
                          refine T.istore (ls' := [some (rf E 29 0 0), some (.int (iI d)), some (.int (iI t)), some (.int (iI v)), some (.int (iI (bZ (0 ≤ v ∧ v ≤ 299)))), some (.int (iI ((8 * d) + 3))), none]) dX9_set_142 rfl ?_
                          refine T.aload_n dX9_set_144 rfl ?_
                          refine T.mget (v := rf E 31 0 0) dX9_set_145 fo_X9_7 ok29 rfl rfl ?_
                          refine T.iload dX9_set_148 rfl ?_
                          refine T.aI (z := S 31 ((8 * d + 3).toNat)) (x := (8 * d + 3).toNat) dX9_set_150 ok31 (fun _ => rfl) (by omega) (by omega) (wrM_c rfl) ?_
                          have q27 : -1 ≤ S 31 ((8 * d + 3).toNat) ∧ S 31 ((8 * d + 3).toNat) ≤ 9999 := hS 31 ((8 * d + 3).toNat) rfl
                          refine T.istore (ls' := [some (rf E 29 0 0), some (.int (iI d)), some (.int (iI t)), some (.int (iI v)), some (.int (iI (bZ (0 ≤ v ∧ v ≤ 299)))), some (.int (iI ((8 * d) + 3))), some (.int (iI (S 31 ((8 * d + 3).toNat))))]) dX9_set_151 rfl ?_
                          refine T.aload_n dX9_set_153 rfl ?_
                          refine T.mget (v := rf E 31 0 0) dX9_set_154 fo_X9_7 ok29 rfl rfl ?_
                          refine T.iload dX9_set_157 rfl ?_
                          refine T.iload_n dX9_set_159 rfl ?_
                          refine T.nist (x := (8 * d + 3).toNat) dX9_set_160 rfl ok31 (fun _ => rfl) (by omega) (by omega) ?_
                          refine T.iload dX9_set_161 rfl ?_
                          exact T.iret dX9_set_163 ⟨congrArg (fun z => some (Value.int (iI z))) (Eq.symm (show nsetR S d t v = S 31 ((8 * d + 3).toNat) from by unfold nsetR; rw [if_neg (by omega), if_neg (by omega), if_neg (by omega), if_neg (by omega), if_neg (by omega), if_neg (by omega), if_pos (by omega)] <;> first | rfl | omega)), congrArg (fun z => hp E (wrM m z)) (Eq.symm (show nsetS S d t v = (upT S 31 ((8 * d + 3).toNat) v) from by unfold nsetS; rw [if_neg (by omega), if_neg (by omega), if_neg (by omega), if_neg (by omega), if_neg (by omega), if_neg (by omega), if_pos (by omega)] <;> rfl))⟩
                      · refine T.bipush dX9_set_126 ?_
                        refine T.goto 141 dX9_set_128 ?_
                        refine T.iadd dX9_set_141 ?_
                        refine T.istore (ls' := [some (rf E 29 0 0), some (.int (iI d)), some (.int (iI t)), some (.int (iI v)), some (.int (iI (bZ (0 ≤ v ∧ v ≤ 299)))), some (.int (iI ((8 * d) + 7))), none]) dX9_set_142 rfl ?_
                        refine T.aload_n dX9_set_144 rfl ?_
                        refine T.mget (v := rf E 31 0 0) dX9_set_145 fo_X9_7 ok29 rfl rfl ?_
                        refine T.iload dX9_set_148 rfl ?_
                        refine T.aI (z := S 31 ((8 * d + 7).toNat)) (x := (8 * d + 7).toNat) dX9_set_150 ok31 (fun _ => rfl) (by omega) (by omega) (wrM_c rfl) ?_
                        have q28 : -1 ≤ S 31 ((8 * d + 7).toNat) ∧ S 31 ((8 * d + 7).toNat) ≤ 9999 := hS 31 ((8 * d + 7).toNat) rfl
                        refine T.istore (ls' := [some (rf E 29 0 0), some (.int (iI d)), some (.int (iI t)), some (.int (iI v)), some (.int (iI (bZ (0 ≤ v ∧ v ≤ 299)))), some (.int (iI ((8 * d) + 7))), some (.int (iI (S 31 ((8 * d + 7).toNat))))]) dX9_set_151 rfl ?_
                        refine T.aload_n dX9_set_153 rfl ?_
                        refine T.mget (v := rf E 31 0 0) dX9_set_154 fo_X9_7 ok29 rfl rfl ?_
                        refine T.iload dX9_set_157 rfl ?_
                        refine T.iload_n dX9_set_159 rfl ?_
                        refine T.nist (x := (8 * d + 7).toNat) dX9_set_160 rfl ok31 (fun _ => rfl) (by omega) (by omega) ?_
                        refine T.iload dX9_set_161 rfl ?_
                        exact T.iret dX9_set_163 ⟨congrArg (fun z => some (Value.int (iI z))) (Eq.symm (show nsetR S d t v = S 31 ((8 * d + 7).toNat) from by unfold nsetR; rw [if_neg (by omega), if_neg (by omega), if_neg (by omega), if_neg (by omega), if_neg (by omega), if_pos (by omega)] <;> first | rfl | omega)), congrArg (fun z => hp E (wrM m z)) (Eq.symm (show nsetS S d t v = (upT S 31 ((8 * d + 7).toNat) v) from by unfold nsetS; rw [if_neg (by omega), if_neg (by omega), if_neg (by omega), if_neg (by omega), if_neg (by omega), if_pos (by omega)] <;> rfl))⟩
                    · refine T.bipush dX9_set_116 ?_
                      refine T.goto 141 dX9_set_118 ?_
                      refine T.iadd dX9_set_141 ?_
                      refine T.istore (ls' := [some (rf E 29 0 0), some (.int (iI d)), some (.int (iI t)), some (.int (iI v)), some (.int (iI (bZ (0 ≤ v ∧ v ≤ 299)))), some (.int (iI ((8 * d) + 6))), none]) dX9_set_142 rfl ?_
                      refine T.aload_n dX9_set_144 rfl ?_
                      refine T.mget (v := rf E 31 0 0) dX9_set_145 fo_X9_7 ok29 rfl rfl ?_
                      refine T.iload dX9_set_148 rfl ?_
                      refine T.aI (z := S 31 ((8 * d + 6).toNat)) (x := (8 * d + 6).toNat) dX9_set_150 ok31 (fun _ => rfl) (by omega) (by omega) (wrM_c rfl) ?_
                      have q29 : -1 ≤ S 31 ((8 * d + 6).toNat) ∧ S 31 ((8 * d + 6).toNat) ≤ 9999 := hS 31 ((8 * d + 6).toNat) rfl
                      refine T.istore (ls' := [some (rf E 29 0 0), some (.int (iI d)), some (.int (iI t)), some (.int (iI v)), some (.int (iI (bZ (0 ≤ v ∧ v ≤ 299)))), some (.int (iI ((8 * d) + 6))), some (.int (iI (S 31 ((8 * d + 6).toNat))))]) dX9_set_151 rfl ?_
                      refine T.aload_n dX9_set_153 rfl ?_
                      refine T.mget (v := rf E 31 0 0) dX9_set_154 fo_X9_7 ok29 rfl rfl ?_
                      refine T.iload dX9_set_157 rfl ?_
                      refine T.iload_n dX9_set_159 rfl ?_
                      refine T.nist (x := (8 * d + 6).toNat) dX9_set_160 rfl ok31 (fun _ => rfl) (by omega) (by omega) ?_
                      refine T.iload dX9_set_161 rfl ?_
                      exact T.iret dX9_set_163 ⟨congrArg (fun z => some (Value.int (iI z))) (Eq.symm (show nsetR S d t v = S 31 ((8 * d + 6).toNat) from by unfold nsetR; rw [if_neg (by omega), if_neg (by omega), if_neg (by omega), if_neg (by omega), if_pos (by omega)] <;> first | rfl | omega)), congrArg (fun z => hp E (wrM m z)) (Eq.symm (show nsetS S d t v = (upT S 31 ((8 * d + 6).toNat) v) from by unfold nsetS; rw [if_neg (by omega), if_neg (by omega), if_neg (by omega), if_neg (by omega), if_pos (by omega)] <;> rfl))⟩
                  · refine T.iconst dX9_set_107 ?_
                    refine T.goto 141 dX9_set_108 ?_
                    refine T.iadd dX9_set_141 ?_
                    refine T.istore (ls' := [some (rf E 29 0 0), some (.int (iI d)), some (.int (iI t)), some (.int (iI v)), some (.int (iI (bZ (0 ≤ v ∧ v ≤ 299)))), some (.int (iI ((8 * d) + 5))), none]) dX9_set_142 rfl ?_
                    refine T.aload_n dX9_set_144 rfl ?_
                    refine T.mget (v := rf E 31 0 0) dX9_set_145 fo_X9_7 ok29 rfl rfl ?_
                    refine T.iload dX9_set_148 rfl ?_
                    refine T.aI (z := S 31 ((8 * d + 5).toNat)) (x := (8 * d + 5).toNat) dX9_set_150 ok31 (fun _ => rfl) (by omega) (by omega) (wrM_c rfl) ?_
                    have q30 : -1 ≤ S 31 ((8 * d + 5).toNat) ∧ S 31 ((8 * d + 5).toNat) ≤ 9999 := hS 31 ((8 * d + 5).toNat) rfl
                    refine T.istore (ls' := [some (rf E 29 0 0), some (.int (iI d)), some (.int (iI t)), some (.int (iI v)), some (.int (iI (bZ (0 ≤ v ∧ v ≤ 299)))), some (.int (iI ((8 * d) + 5))), some (.int (iI (S 31 ((8 * d + 5).toNat))))]) dX9_set_151 rfl ?_
                    refine T.aload_n dX9_set_153 rfl ?_
                    refine T.mget (v := rf E 31 0 0) dX9_set_154 fo_X9_7 ok29 rfl rfl ?_
                    refine T.iload dX9_set_157 rfl ?_
                    refine T.iload_n dX9_set_159 rfl ?_
                    refine T.nist (x := (8 * d + 5).toNat) dX9_set_160 rfl ok31 (fun _ => rfl) (by omega) (by omega) ?_
                    refine T.iload dX9_set_161 rfl ?_
                    exact T.iret dX9_set_163 ⟨congrArg (fun z => some (Value.int (iI z))) (Eq.symm (show nsetR S d t v = S 31 ((8 * d + 5).toNat) from by unfold nsetR; rw [if_neg (by omega), if_neg (by omega), if_neg (by omega), if_pos (by omega)] <;> first | rfl | omega)), congrArg (fun z => hp E (wrM m z)) (Eq.symm (show nsetS S d t v = (upT S 31 ((8 * d + 5).toNat) v) from by unfold nsetS; rw [if_neg (by omega), if_neg (by omega), if_neg (by omega), if_pos (by omega)] <;> rfl))⟩
                · refine T.iconst dX9_set_98 ?_
                  refine T.goto 141 dX9_set_99 ?_
                  refine T.iadd dX9_set_141 ?_
                  refine T.istore (ls' := [some (rf E 29 0 0), some (.int (iI d)), some (.int (iI t)), some (.int (iI v)), some (.int (iI (bZ (0 ≤ v ∧ v ≤ 299)))), some (.int (iI ((8 * d) + 4))), none]) dX9_set_142 rfl ?_
                  refine T.aload_n dX9_set_144 rfl ?_
                  refine T.mget (v := rf E 31 0 0) dX9_set_145 fo_X9_7 ok29 rfl rfl ?_
                  refine T.iload dX9_set_148 rfl ?_
                  refine T.aI (z := S 31 ((8 * d + 4).toNat)) (x := (8 * d + 4).toNat) dX9_set_150 ok31 (fun _ => rfl) (by omega) (by omega) (wrM_c rfl) ?_
                  have q31 : -1 ≤ S 31 ((8 * d + 4).toNat) ∧ S 31 ((8 * d + 4).toNat) ≤ 9999 := hS 31 ((8 * d + 4).toNat) rfl
                  refine T.istore (ls' := [some (rf E 29 0 0), some (.int (iI d)), some (.int (iI t)), some (.int (iI v)), some (.int (iI (bZ (0 ≤ v ∧ v ≤ 299)))), some (.int (iI ((8 * d) + 4))), some (.int (iI (S 31 ((8 * d + 4).toNat))))]) dX9_set_151 rfl ?_
                  refine T.aload_n dX9_set_153 rfl ?_
                  refine T.mget (v := rf E 31 0 0) dX9_set_154 fo_X9_7 ok29 rfl rfl ?_
                  refine T.iload dX9_set_157 rfl ?_
                  refine T.iload_n dX9_set_159 rfl ?_
                  refine T.nist (x := (8 * d + 4).toNat) dX9_set_160 rfl ok31 (fun _ => rfl) (by omega) (by omega) ?_
                  refine T.iload dX9_set_161 rfl ?_
                  exact T.iret dX9_set_163 ⟨congrArg (fun z => some (Value.int (iI z))) (Eq.symm (show nsetR S d t v = S 31 ((8 * d + 4).toNat) from by unfold nsetR; rw [if_neg (by omega), if_neg (by omega), if_pos (by omega)] <;> first | rfl | omega)), congrArg (fun z => hp E (wrM m z)) (Eq.symm (show nsetS S d t v = (upT S 31 ((8 * d + 4).toNat) v) from by unfold nsetS; rw [if_neg (by omega), if_neg (by omega), if_pos (by omega)] <;> rfl))⟩
              · refine T.iconst dX9_set_88 ?_
                exact T.iret dX9_set_89 ⟨congrArg (fun z => some (Value.int (iI z))) (Eq.symm (show nsetR S d t v = (-1) from by unfold nsetR; rw [if_neg (by omega), if_pos (by omega)] <;> first | rfl | omega)), congrArg (fun z => hp E (wrM m z)) (Eq.symm (show nsetS S d t v = S from by unfold nsetS; rw [if_neg (by omega), if_pos (by omega)] <;> rfl))⟩
            · refine T.iload_n dX9_set_65 rfl ?_
              refine T.i2l dX9_set_66 (by unfold rg; omega) ?_
              refine T.lconst0 dX9_set_67 ?_
              refine T.ldc2 dX9_set_68 kl_X9_100 ?_
              refine T.cS1 (As := [.long (lI v), .long (lI 0), .long (lI 99)]) (st := []) dX9_set_71 lk_X9_83 (n_in E _ (by unfold rl; omega) (by unfold rl; omega) (by unfold rl; omega)) (by decide) rfl rfl (Nat.le_of_ble_eq_true rfl) ?_
              refine T.goto 81 dX9_set_74 ?_
              refine T.istore (ls' := [some (rf E 29 0 0), some (.int (iI d)), some (.int (iI t)), some (.int (iI v)), some (.int (iI (bZ (0 ≤ v ∧ v ≤ 99)))), none, none]) dX9_set_81 rfl ?_
              refine T.iload dX9_set_83 rfl ?_
              refine T.ifB_ne 90 dX9_set_85 (fun c32 => ?_) (fun c32 => ?_)
              · refine T.bipush dX9_set_90 ?_
                refine T.iload_n dX9_set_92 rfl ?_
                refine T.imul dX9_set_93 ?_
                refine T.iload_n dX9_set_94 rfl ?_
                refine T.if_ne 102 dX9_set_95 (by unfold rg; omega) (fun c33 => ?_) (fun c33 => ?_)
                · refine T.iload_n dX9_set_102 rfl ?_
                  refine T.iconst dX9_set_103 ?_
                  refine T.icmp_ne 111 dX9_set_104 (by unfold rg; omega) (by unfold rg; omega) (fun c34 => ?_) (fun c34 => ?_)
                  · refine T.iload_n dX9_set_111 rfl ?_
                    refine T.iconst dX9_set_112 ?_
                    refine T.icmp_ne 121 dX9_set_113 (by unfold rg; omega) (by unfold rg; omega) (fun c35 => ?_) (fun c35 => ?_)
                    · refine T.iload_n dX9_set_121 rfl ?_
                      refine T.iconst dX9_set_122 ?_
                      refine T.icmp_ne 131 dX9_set_123 (by unfold rg; omega) (by unfold rg; omega) (fun c36 => ?_) (fun c36 => ?_)
                      · refine T.iload_n dX9_set_131 rfl ?_
                        refine T.iconst dX9_set_132 ?_
                        refine T.icmp_ne 140 dX9_set_133 (by unfold rg; omega) (by unfold rg; omega) (fun c37 => ?_) (fun c37 => ?_)
                        · refine T.iconst dX9_set_140 ?_
                          refine T.iadd dX9_set_141 ?_
                          refine T.istore (ls' := [some (rf E 29 0 0), some (.int (iI d)), some (.int (iI t)), some (.int (iI v)), some (.int (iI (bZ (0 ≤ v ∧ v ≤ 99)))), some (.int (iI ((8 * d) + 2))), none]) dX9_set_142 rfl ?_
                          refine T.aload_n dX9_set_144 rfl ?_
                          refine T.mget (v := rf E 31 0 0) dX9_set_145 fo_X9_7 ok29 rfl rfl ?_
                          refine T.iload dX9_set_148 rfl ?_
                          refine T.aI (z := S 31 ((8 * d + 2).toNat)) (x := (8 * d + 2).toNat) dX9_set_150 ok31 (fun _ => rfl) (by omega) (by omega) (wrM_c rfl) ?_
                          have q38 : -1 ≤ S 31 ((8 * d + 2).toNat) ∧ S 31 ((8 * d + 2).toNat) ≤ 9999 := hS 31 ((8 * d + 2).toNat) rfl
                          refine T.istore (ls' := [some (rf E 29 0 0), some (.int (iI d)), some (.int (iI t)), some (.int (iI v)), some (.int (iI (bZ (0 ≤ v ∧ v ≤ 99)))), some (.int (iI ((8 * d) + 2))), some (.int (iI (S 31 ((8 * d + 2).toNat))))]) dX9_set_151 rfl ?_
                          refine T.aload_n dX9_set_153 rfl ?_
                          refine T.mget (v := rf E 31 0 0) dX9_set_154 fo_X9_7 ok29 rfl rfl ?_
                          refine T.iload dX9_set_157 rfl ?_
                          refine T.iload_n dX9_set_159 rfl ?_
                          refine T.nist (x := (8 * d + 2).toNat) dX9_set_160 rfl ok31 (fun _ => rfl) (by omega) (by omega) ?_
                          refine T.iload dX9_set_161 rfl ?_
                          exact T.iret dX9_set_163 ⟨congrArg (fun z => some (Value.int (iI z))) (Eq.symm (show nsetR S d t v = S 31 ((8 * d + 2).toNat) from by unfold nsetR; rw [if_neg (by omega), if_neg (by omega), if_neg (by omega), if_neg (by omega), if_neg (by omega), if_neg (by omega), if_neg (by omega)] <;> first | rfl | omega)), congrArg (fun z => hp E (wrM m z)) (Eq.symm (show nsetS S d t v = (upT S 31 ((8 * d + 2).toNat) v) from by unfold nsetS; rw [if_neg (by omega), if_neg (by omega), if_neg (by omega), if_neg (by omega), if_neg (by omega), if_neg (by omega), if_neg (by omega)] <;> rfl))⟩
                        · refine T.iconst dX9_set_136 ?_
                          refine T.goto 141 dX9_set_137 ?_
                          refine T.iadd dX9_set_141 ?_
                          refine T.istore (ls' := [some (rf E 29 0 0), some (.int (iI d)), some (.int (iI t)), some (.int (iI v)), some (.int (iI (bZ (0 ≤ v ∧ v ≤ 99)))), some (.int (iI ((8 * d) + 3))), none]) dX9_set_142 rfl ?_
                          refine T.aload_n dX9_set_144 rfl ?_
                          refine T.mget (v := rf E 31 0 0) dX9_set_145 fo_X9_7 ok29 rfl rfl ?_
                          refine T.iload dX9_set_148 rfl ?_
                          refine T.aI (z := S 31 ((8 * d + 3).toNat)) (x := (8 * d + 3).toNat) dX9_set_150 ok31 (fun _ => rfl) (by omega) (by omega) (wrM_c rfl) ?_
                          have q39 : -1 ≤ S 31 ((8 * d + 3).toNat) ∧ S 31 ((8 * d + 3).toNat) ≤ 9999 := hS 31 ((8 * d + 3).toNat) rfl
                          refine T.istore (ls' := [some (rf E 29 0 0), some (.int (iI d)), some (.int (iI t)), some (.int (iI v)), some (.int (iI (bZ (0 ≤ v ∧ v ≤ 99)))), some (.int (iI ((8 * d) + 3))), some (.int (iI (S 31 ((8 * d + 3).toNat))))]) dX9_set_151 rfl ?_
                          refine T.aload_n dX9_set_153 rfl ?_
                          refine T.mget (v := rf E 31 0 0) dX9_set_154 fo_X9_7 ok29 rfl rfl ?_
                          refine T.iload dX9_set_157 rfl ?_
                          refine T.iload_n dX9_set_159 rfl ?_
                          refine T.nist (x := (8 * d + 3).toNat) dX9_set_160 rfl ok31 (fun _ => rfl) (by omega) (by omega) ?_
                          refine T.iload dX9_set_161 rfl ?_
                          exact T.iret dX9_set_163 ⟨congrArg (fun z => some (Value.int (iI z))) (Eq.symm (show nsetR S d t v = S 31 ((8 * d + 3).toNat) from by unfold nsetR; rw [if_neg (by omega), if_neg (by omega), if_neg (by omega), if_neg (by omega), if_neg (by omega), if_neg (by omega), if_pos (by omega)] <;> first | rfl | omega)), congrArg (fun z => hp E (wrM m z)) (Eq.symm (show nsetS S d t v = (upT S 31 ((8 * d + 3).toNat) v) from by unfold nsetS; rw [if_neg (by omega), if_neg (by omega), if_neg (by omega), if_neg (by omega), if_neg (by omega), if_neg (by omega), if_pos (by omega)] <;> rfl))⟩
                      · refine T.bipush dX9_set_126 ?_
                        refine T.goto 141 dX9_set_128 ?_
                        refine T.iadd dX9_set_141 ?_
                        refine T.istore (ls' := [some (rf E 29 0 0), some (.int (iI d)), some (.int (iI t)), some (.int (iI v)), some (.int (iI (bZ (0 ≤ v ∧ v ≤ 99)))), some (.int (iI ((8 * d) + 7))), none]) dX9_set_142 rfl ?_
                        refine T.aload_n dX9_set_144 rfl ?_
                        refine T.mget (v := rf E 31 0 0) dX9_set_145 fo_X9_7 ok29 rfl rfl ?_
                        refine T.iload dX9_set_148 rfl ?_
                        refine T.aI (z := S 31 ((8 * d + 7).toNat)) (x := (8 * d + 7).toNat) dX9_set_150 ok31 (fun _ => rfl) (by omega) (by omega) (wrM_c rfl) ?_
                        have q40 : -1 ≤ S 31 ((8 * d + 7).toNat) ∧ S 31 ((8 * d + 7).toNat) ≤ 9999 := hS 31 ((8 * d + 7).toNat) rfl
                        refine T.istore (ls' := [some (rf E 29 0 0), some (.int (iI d)), some (.int (iI t)), some (.int (iI v)), some (.int (iI (bZ (0 ≤ v ∧ v ≤ 99)))), some (.int (iI ((8 * d) + 7))), some (.int (iI (S 31 ((8 * d + 7).toNat))))]) dX9_set_151 rfl ?_
                        refine T.aload_n dX9_set_153 rfl ?_
                        refine T.mget (v := rf E 31 0 0) dX9_set_154 fo_X9_7 ok29 rfl rfl ?_
                        refine T.iload dX9_set_157 rfl ?_
                        refine T.iload_n dX9_set_159 rfl ?_
                        refine T.nist (x := (8 * d + 7).toNat) dX9_set_160 rfl ok31 (fun _ => rfl) (by omega) (by omega) ?_
                        refine T.iload dX9_set_161 rfl ?_
                        exact T.iret dX9_set_163 ⟨congrArg (fun z => some (Value.int (iI z))) (Eq.symm (show nsetR S d t v = S 31 ((8 * d + 7).toNat) from by unfold nsetR; rw [if_neg (by omega), if_neg (by omega), if_neg (by omega), if_neg (by omega), if_neg (by omega), if_pos (by omega)] <;> first | rfl | omega)), congrArg (fun z => hp E (wrM m z)) (Eq.symm (show nsetS S d t v = (upT S 31 ((8 * d + 7).toNat) v) from by unfold nsetS; rw [if_neg (by omega), if_neg (by omega), if_neg (by omega), if_neg (by omega), if_neg (by omega), if_pos (by omega)] <;> rfl))⟩
                    · refine T.bipush dX9_set_116 ?_
                      refine T.goto 141 dX9_set_118 ?_
                      refine T.iadd dX9_set_141 ?_
                      refine T.istore (ls' := [some (rf E 29 0 0), some (.int (iI d)), some (.int (iI t)), some (.int (iI v)), some (.int (iI (bZ (0 ≤ v ∧ v ≤ 99)))), some (.int (iI ((8 * d) + 6))), none]) dX9_set_142 rfl ?_
                      refine T.aload_n dX9_set_144 rfl ?_
                      refine T.mget (v := rf E 31 0 0) dX9_set_145 fo_X9_7 ok29 rfl rfl ?_
                      refine T.iload dX9_set_148 rfl ?_
                      refine T.aI (z := S 31 ((8 * d + 6).toNat)) (x := (8 * d + 6).toNat) dX9_set_150 ok31 (fun _ => rfl) (by omega) (by omega) (wrM_c rfl) ?_
                      have q41 : -1 ≤ S 31 ((8 * d + 6).toNat) ∧ S 31 ((8 * d + 6).toNat) ≤ 9999 := hS 31 ((8 * d + 6).toNat) rfl
                      refine T.istore (ls' := [some (rf E 29 0 0), some (.int (iI d)), some (.int (iI t)), some (.int (iI v)), some (.int (iI (bZ (0 ≤ v ∧ v ≤ 99)))), some (.int (iI ((8 * d) + 6))), some (.int (iI (S 31 ((8 * d + 6).toNat))))]) dX9_set_151 rfl ?_
                      refine T.aload_n dX9_set_153 rfl ?_
                      refine T.mget (v := rf E 31 0 0) dX9_set_154 fo_X9_7 ok29 rfl rfl ?_
                      refine T.iload dX9_set_157 rfl ?_
                      refine T.iload_n dX9_set_159 rfl ?_
                      refine T.nist (x := (8 * d + 6).toNat) dX9_set_160 rfl ok31 (fun _ => rfl) (by omega) (by omega) ?_
                      refine T.iload dX9_set_161 rfl ?_
                      exact T.iret dX9_set_163 ⟨congrArg (fun z => some (Value.int (iI z))) (Eq.symm (show nsetR S d t v = S 31 ((8 * d + 6).toNat) from by unfold nsetR; rw [if_neg (by omega), if_neg (by omega), if_neg (by omega), if_neg (by omega), if_pos (by omega)] <;> first | rfl | omega)), congrArg (fun z => hp E (wrM m z)) (Eq.symm (show nsetS S d t v = (upT S 31 ((8 * d + 6).toNat) v) from by unfold nsetS; rw [if_neg (by omega), if_neg (by omega), if_neg (by omega), if_neg (by omega), if_pos (by omega)] <;> rfl))⟩
                  · refine T.iconst dX9_set_107 ?_
                    refine T.goto 141 dX9_set_108 ?_
                    refine T.iadd dX9_set_141 ?_
                    refine T.istore (ls' := [some (rf E 29 0 0), some (.int (iI d)), some (.int (iI t)), some (.int (iI v)), some (.int (iI (bZ (0 ≤ v ∧ v ≤ 99)))), some (.int (iI ((8 * d) + 5))), none]) dX9_set_142 rfl ?_
                    refine T.aload_n dX9_set_144 rfl ?_
                    refine T.mget (v := rf E 31 0 0) dX9_set_145 fo_X9_7 ok29 rfl rfl ?_
                    refine T.iload dX9_set_148 rfl ?_
                    refine T.aI (z := S 31 ((8 * d + 5).toNat)) (x := (8 * d + 5).toNat) dX9_set_150 ok31 (fun _ => rfl) (by omega) (by omega) (wrM_c rfl) ?_
                    have q42 : -1 ≤ S 31 ((8 * d + 5).toNat) ∧ S 31 ((8 * d + 5).toNat) ≤ 9999 := hS 31 ((8 * d + 5).toNat) rfl
                    refine T.istore (ls' := [some (rf E 29 0 0), some (.int (iI d)), some (.int (iI t)), some (.int (iI v)), some (.int (iI (bZ (0 ≤ v ∧ v ≤ 99)))), some (.int (iI ((8 * d) + 5))), some (.int (iI (S 31 ((8 * d + 5).toNat))))]) dX9_set_151 rfl ?_
                    refine T.aload_n dX9_set_153 rfl ?_
                    refine T.mget (v := rf E 31 0 0) dX9_set_154 fo_X9_7 ok29 rfl rfl ?_
                    refine T.iload dX9_set_157 rfl ?_
                    refine T.iload_n dX9_set_159 rfl ?_
                    refine T.nist (x := (8 * d + 5).toNat) dX9_set_160 rfl ok31 (fun _ => rfl) (by omega) (by omega) ?_
                    refine T.iload dX9_set_161 rfl ?_
                    exact T.iret dX9_set_163 ⟨congrArg (fun z => some (Value.int (iI z))) (Eq.symm (show nsetR S d t v = S 31 ((8 * d + 5).toNat) from by unfold nsetR; rw [if_neg (by omega), if_neg (by omega), if_neg (by omega), if_pos (by omega)] <;> first | rfl | omega)), congrArg (fun z => hp E (wrM m z)) (Eq.symm (show nsetS S d t v = (upT S 31 ((8 * d + 5).toNat) v) from by unfold nsetS; rw [if_neg (by omega), if_neg (by omega), if_neg (by omega), if_pos (by omega)] <;> rfl))⟩
                · refine T.iconst dX9_set_98 ?_
                  refine T.goto 141 dX9_set_99 ?_
                  refine T.iadd dX9_set_141 ?_
                  refine T.istore (ls' := [some (rf E 29 0 0), some (.int (iI d)), some (.int (iI t)), some (.int (iI v)), some (.int (iI (bZ (0 ≤ v ∧ v ≤ 99)))), some (.int (iI ((8 * d) + 4))), none]) dX9_set_142 rfl ?_
                  refine T.aload_n dX9_set_144 rfl ?_
                  refine T.mget (v := rf E 31 0 0) dX9_set_145 fo_X9_7 ok29 rfl rfl ?_
                  refine T.iload dX9_set_148 rfl ?_
                  refine T.aI (z := S 31 ((8 * d + 4).toNat)) (x := (8 * d + 4).toNat) dX9_set_150 ok31 (fun _ => rfl) (by omega) (by omega) (wrM_c rfl) ?_
                  have q43 : -1 ≤ S 31 ((8 * d + 4).toNat) ∧ S 31 ((8 * d + 4).toNat) ≤ 9999 := hS 31 ((8 * d + 4).toNat) rfl
                  refine T.istore (ls' := [some (rf E 29 0 0), some (.int (iI d)), some (.int (iI t)), some (.int (iI v)), some (.int (iI (bZ (0 ≤ v ∧ v ≤ 99)))), some (.int (iI ((8 * d) + 4))), some (.int (iI (S 31 ((8 * d + 4).toNat))))]) dX9_set_151 rfl ?_
                  refine T.aload_n dX9_set_153 rfl ?_
                  refine T.mget (v := rf E 31 0 0) dX9_set_154 fo_X9_7 ok29 rfl rfl ?_
                  refine T.iload dX9_set_157 rfl ?_
                  refine T.iload_n dX9_set_159 rfl ?_
                  refine T.nist (x := (8 * d + 4).toNat) dX9_set_160 rfl ok31 (fun _ => rfl) (by omega) (by omega) ?_
                  refine T.iload dX9_set_161 rfl ?_
                  exact T.iret dX9_set_163 ⟨congrArg (fun z => some (Value.int (iI z))) (Eq.symm (show nsetR S d t v = S 31 ((8 * d + 4).toNat) from by unfold nsetR; rw [if_neg (by omega), if_neg (by omega), if_pos (by omega)] <;> first | rfl | omega)), congrArg (fun z => hp E (wrM m z)) (Eq.symm (show nsetS S d t v = (upT S 31 ((8 * d + 4).toNat) v) from by unfold nsetS; rw [if_neg (by omega), if_neg (by omega), if_pos (by omega)] <;> rfl))⟩
              · refine T.iconst dX9_set_88 ?_
                exact T.iret dX9_set_89 ⟨congrArg (fun z => some (Value.int (iI z))) (Eq.symm (show nsetR S d t v = (-1) from by unfold nsetR; rw [if_neg (by omega), if_pos (by omega)] <;> first | rfl | omega)), congrArg (fun z => hp E (wrM m z)) (Eq.symm (show nsetS S d t v = S from by unfold nsetS; rw [if_neg (by omega), if_pos (by omega)] <;> rfl))⟩
          · refine T.iload_n dX9_set_46 rfl ?_
            refine T.i2l dX9_set_47 (by unfold rg; omega) ?_
            refine T.ldc2 dX9_set_48 kl_X9_107 ?_
            refine T.ldc2 dX9_set_51 kl_X9_105 ?_
            refine T.cS1 (As := [.long (lI v), .long (lI (-1)), .long (lI 5)]) (st := []) dX9_set_54 lk_X9_83 (n_in E _ (by unfold rl; omega) (by unfold rl; omega) (by unfold rl; omega)) (by decide) rfl rfl (Nat.le_of_ble_eq_true rfl) ?_
            refine T.goto 81 dX9_set_57 ?_
            refine T.istore (ls' := [some (rf E 29 0 0), some (.int (iI d)), some (.int (iI t)), some (.int (iI v)), some (.int (iI (bZ ((-1) ≤ v ∧ v ≤ 5)))), none, none]) dX9_set_81 rfl ?_
            refine T.iload dX9_set_83 rfl ?_
            refine T.ifB_ne 90 dX9_set_85 (fun c44 => ?_) (fun c44 => ?_)
            · refine T.bipush dX9_set_90 ?_
              refine T.iload_n dX9_set_92 rfl ?_
              refine T.imul dX9_set_93 ?_
              refine T.iload_n dX9_set_94 rfl ?_
              refine T.if_ne 102 dX9_set_95 (by unfold rg; omega) (fun c45 => ?_) (fun c45 => ?_)
              · refine T.iload_n dX9_set_102 rfl ?_
                refine T.iconst dX9_set_103 ?_
                refine T.icmp_ne 111 dX9_set_104 (by unfold rg; omega) (by unfold rg; omega) (fun c46 => ?_) (fun c46 => ?_)
                · refine T.iload_n dX9_set_111 rfl ?_
                  refine T.iconst dX9_set_112 ?_
                  refine T.icmp_ne 121 dX9_set_113 (by unfold rg; omega) (by unfold rg; omega) (fun c47 => ?_) (fun c47 => ?_)
                  · refine T.iload_n dX9_set_121 rfl ?_
                    refine T.iconst dX9_set_122 ?_
                    refine T.icmp_ne 131 dX9_set_123 (by unfold rg; omega) (by unfold rg; omega) (fun c48 => ?_) (fun c48 => ?_)
                    · refine T.iload_n dX9_set_131 rfl ?_
                      refine T.iconst dX9_set_132 ?_
                      refine T.icmp_ne 140 dX9_set_133 (by unfold rg; omega) (by unfold rg; omega) (fun c49 => ?_) (fun c49 => ?_)
                      · refine T.iconst dX9_set_140 ?_
                        refine T.iadd dX9_set_141 ?_
                        refine T.istore (ls' := [some (rf E 29 0 0), some (.int (iI d)), some (.int (iI t)), some (.int (iI v)), some (.int (iI (bZ ((-1) ≤ v ∧ v ≤ 5)))), some (.int (iI ((8 * d) + 2))), none]) dX9_set_142 rfl ?_
                        refine T.aload_n dX9_set_144 rfl ?_
                        refine T.mget (v := rf E 31 0 0) dX9_set_145 fo_X9_7 ok29 rfl rfl ?_
                        refine T.iload dX9_set_148 rfl ?_
                        refine T.aI (z := S 31 ((8 * d + 2).toNat)) (x := (8 * d + 2).toNat) dX9_set_150 ok31 (fun _ => rfl) (by omega) (by omega) (wrM_c rfl) ?_
                        have q50 : -1 ≤ S 31 ((8 * d + 2).toNat) ∧ S 31 ((8 * d + 2).toNat) ≤ 9999 := hS 31 ((8 * d + 2).toNat) rfl
                        refine T.istore (ls' := [some (rf E 29 0 0), some (.int (iI d)), some (.int (iI t)), some (.int (iI v)), some (.int (iI (bZ ((-1) ≤ v ∧ v ≤ 5)))), some (.int (iI ((8 * d) + 2))), some (.int (iI (S 31 ((8 * d + 2).toNat))))]) dX9_set_151 rfl ?_
                        refine T.aload_n dX9_set_153 rfl ?_
                        refine T.mget (v := rf E 31 0 0) dX9_set_154 fo_X9_7 ok29 rfl rfl ?_
                        refine T.iload dX9_set_157 rfl ?_
                        refine T.iload_n dX9_set_159 rfl ?_
                        refine T.nist (x := (8 * d + 2).toNat) dX9_set_160 rfl ok31 (fun _ => rfl) (by omega) (by omega) ?_
                        refine T.iload dX9_set_161 rfl ?_
                        exact T.iret dX9_set_163 ⟨congrArg (fun z => some (Value.int (iI z))) (Eq.symm (show nsetR S d t v = S 31 ((8 * d + 2).toNat) from by unfold nsetR; rw [if_neg (by omega), if_neg (by omega), if_neg (by omega), if_neg (by omega), if_neg (by omega), if_neg (by omega), if_neg (by omega)] <;> first | rfl | omega)), congrArg (fun z => hp E (wrM m z)) (Eq.symm (show nsetS S d t v = (upT S 31 ((8 * d + 2).toNat) v) from by unfold nsetS; rw [if_neg (by omega), if_neg (by omega), if_neg (by omega), if_neg (by omega), if_neg (by omega), if_neg (by omega), if_neg (by omega)] <;> rfl))⟩
                      · refine T.iconst dX9_set_136 ?_
                        refine T.goto 141 dX9_set_137 ?_
                        refine T.iadd dX9_set_141 ?_
                        refine T.istore (ls' := [some (rf E 29 0 0), some (.int (iI d)), some (.int (iI t)), some (.int (iI v)), some (.int (iI (bZ ((-1) ≤ v ∧ v ≤ 5)))), some (.int (iI ((8 * d) + 3))), none]) dX9_set_142 rfl ?_
                        refine T.aload_n dX9_set_144 rfl ?_
                        refine T.mget (v := rf E 31 0 0) dX9_set_145 fo_X9_7 ok29 rfl rfl ?_
                        refine T.iload dX9_set_148 rfl ?_
                        refine T.aI (z := S 31 ((8 * d + 3).toNat)) (x := (8 * d + 3).toNat) dX9_set_150 ok31 (fun _ => rfl) (by omega) (by omega) (wrM_c rfl) ?_
                        have q51 : -1 ≤ S 31 ((8 * d + 3).toNat) ∧ S 31 ((8 * d + 3).toNat) ≤ 9999 := hS 31 ((8 * d + 3).toNat) rfl
                        refine T.istore (ls' := [some (rf E 29 0 0), some (.int (iI d)), some (.int (iI t)), some (.int (iI v)), some (.int (iI (bZ ((-1) ≤ v ∧ v ≤ 5)))), some (.int (iI ((8 * d) + 3))), some (.int (iI (S 31 ((8 * d + 3).toNat))))]) dX9_set_151 rfl ?_
                        refine T.aload_n dX9_set_153 rfl ?_
                        refine T.mget (v := rf E 31 0 0) dX9_set_154 fo_X9_7 ok29 rfl rfl ?_
                        refine T.iload dX9_set_157 rfl ?_
                        refine T.iload_n dX9_set_159 rfl ?_
                        refine T.nist (x := (8 * d + 3).toNat) dX9_set_160 rfl ok31 (fun _ => rfl) (by omega) (by omega) ?_
                        refine T.iload dX9_set_161 rfl ?_
                        exact T.iret dX9_set_163 ⟨congrArg (fun z => some (Value.int (iI z))) (Eq.symm (show nsetR S d t v = S 31 ((8 * d + 3).toNat) from by unfold nsetR; rw [if_neg (by omega), if_neg (by omega), if_neg (by omega), if_neg (by omega), if_neg (by omega), if_neg (by omega), if_pos (by omega)] <;> first | rfl | omega)), congrArg (fun z => hp E (wrM m z)) (Eq.symm (show nsetS S d t v = (upT S 31 ((8 * d + 3).toNat) v) from by unfold nsetS; rw [if_neg (by omega), if_neg (by omega), if_neg (by omega), if_neg (by omega), if_neg (by omega), if_neg (by omega), if_pos (by omega)] <;> rfl))⟩
                    · refine T.bipush dX9_set_126 ?_
                      refine T.goto 141 dX9_set_128 ?_
                      refine T.iadd dX9_set_141 ?_
                      refine T.istore (ls' := [some (rf E 29 0 0), some (.int (iI d)), some (.int (iI t)), some (.int (iI v)), some (.int (iI (bZ ((-1) ≤ v ∧ v ≤ 5)))), some (.int (iI ((8 * d) + 7))), none]) dX9_set_142 rfl ?_
                      refine T.aload_n dX9_set_144 rfl ?_
                      refine T.mget (v := rf E 31 0 0) dX9_set_145 fo_X9_7 ok29 rfl rfl ?_
                      refine T.iload dX9_set_148 rfl ?_
                      refine T.aI (z := S 31 ((8 * d + 7).toNat)) (x := (8 * d + 7).toNat) dX9_set_150 ok31 (fun _ => rfl) (by omega) (by omega) (wrM_c rfl) ?_
                      have q52 : -1 ≤ S 31 ((8 * d + 7).toNat) ∧ S 31 ((8 * d + 7).toNat) ≤ 9999 := hS 31 ((8 * d + 7).toNat) rfl
                      refine T.istore (ls' := [some (rf E 29 0 0), some (.int (iI d)), some (.int (iI t)), some (.int (iI v)), some (.int (iI (bZ ((-1) ≤ v ∧ v ≤ 5)))), some (.int (iI ((8 * d) + 7))), some (.int (iI (S 31 ((8 * d + 7).toNat))))]) dX9_set_151 rfl ?_
                      refine T.aload_n dX9_set_153 rfl ?_
                      refine T.mget (v := rf E 31 0 0) dX9_set_154 fo_X9_7 ok29 rfl rfl ?_
                      refine T.iload dX9_set_157 rfl ?_
                      refine T.iload_n dX9_set_159 rfl ?_
                      refine T.nist (x := (8 * d + 7).toNat) dX9_set_160 rfl ok31 (fun _ => rfl) (by omega) (by omega) ?_
                      refine T.iload dX9_set_161 rfl ?_
                      exact T.iret dX9_set_163 ⟨congrArg (fun z => some (Value.int (iI z))) (Eq.symm (show nsetR S d t v = S 31 ((8 * d + 7).toNat) from by unfold nsetR; rw [if_neg (by omega), if_neg (by omega), if_neg (by omega), if_neg (by omega), if_neg (by omega), if_pos (by omega)] <;> first | rfl | omega)), congrArg (fun z => hp E (wrM m z)) (Eq.symm (show nsetS S d t v = (upT S 31 ((8 * d + 7).toNat) v) from by unfold nsetS; rw [if_neg (by omega), if_neg (by omega), if_neg (by omega), if_neg (by omega), if_neg (by omega), if_pos (by omega)] <;> rfl))⟩
                  · refine T.bipush dX9_set_116 ?_
                    refine T.goto 141 dX9_set_118 ?_
                    refine T.iadd dX9_set_141 ?_
                    refine T.istore (ls' := [some (rf E 29 0 0), some (.int (iI d)), some (.int (iI t)), some (.int (iI v)), some (.int (iI (bZ ((-1) ≤ v ∧ v ≤ 5)))), some (.int (iI ((8 * d) + 6))), none]) dX9_set_142 rfl ?_
                    refine T.aload_n dX9_set_144 rfl ?_
                    refine T.mget (v := rf E 31 0 0) dX9_set_145 fo_X9_7 ok29 rfl rfl ?_
                    refine T.iload dX9_set_148 rfl ?_
                    refine T.aI (z := S 31 ((8 * d + 6).toNat)) (x := (8 * d + 6).toNat) dX9_set_150 ok31 (fun _ => rfl) (by omega) (by omega) (wrM_c rfl) ?_
                    have q53 : -1 ≤ S 31 ((8 * d + 6).toNat) ∧ S 31 ((8 * d + 6).toNat) ≤ 9999 := hS 31 ((8 * d + 6).toNat) rfl
                    refine T.istore (ls' := [some (rf E 29 0 0), some (.int (iI d)), some (.int (iI t)), some (.int (iI v)), some (.int (iI (bZ ((-1) ≤ v ∧ v ≤ 5)))), some (.int (iI ((8 * d) + 6))), some (.int (iI (S 31 ((8 * d + 6).toNat))))]) dX9_set_151 rfl ?_
                    refine T.aload_n dX9_set_153 rfl ?_
                    refine T.mget (v := rf E 31 0 0) dX9_set_154 fo_X9_7 ok29 rfl rfl ?_
                    refine T.iload dX9_set_157 rfl ?_
                    refine T.iload_n dX9_set_159 rfl ?_
                    refine T.nist (x := (8 * d + 6).toNat) dX9_set_160 rfl ok31 (fun _ => rfl) (by omega) (by omega) ?_
                    refine T.iload dX9_set_161 rfl ?_
                    exact T.iret dX9_set_163 ⟨congrArg (fun z => some (Value.int (iI z))) (Eq.symm (show nsetR S d t v = S 31 ((8 * d + 6).toNat) from by unfold nsetR; rw [if_neg (by omega), if_neg (by omega), if_neg (by omega), if_neg (by omega), if_pos (by omega)] <;> first | rfl | omega)), congrArg (fun z => hp E (wrM m z)) (Eq.symm (show nsetS S d t v = (upT S 31 ((8 * d + 6).toNat) v) from by unfold nsetS; rw [if_neg (by omega), if_neg (by omega), if_neg (by omega), if_neg (by omega), if_pos (by omega)] <;> rfl))⟩
                · refine T.iconst dX9_set_107 ?_
                  refine T.goto 141 dX9_set_108 ?_
                  refine T.iadd dX9_set_141 ?_
                  refine T.istore (ls' := [some (rf E 29 0 0), some (.int (iI d)), some (.int (iI t)), some (.int (iI v)), some (.int (iI (bZ ((-1) ≤ v ∧ v ≤ 5)))), some (.int (iI ((8 * d) + 5))), none]) dX9_set_142 rfl ?_
                  refine T.aload_n dX9_set_144 rfl ?_
                  refine T.mget (v := rf E 31 0 0) dX9_set_145 fo_X9_7 ok29 rfl rfl ?_
                  refine T.iload dX9_set_148 rfl ?_
                  refine T.aI (z := S 31 ((8 * d + 5).toNat)) (x := (8 * d + 5).toNat) dX9_set_150 ok31 (fun _ => rfl) (by omega) (by omega) (wrM_c rfl) ?_
                  have q54 : -1 ≤ S 31 ((8 * d + 5).toNat) ∧ S 31 ((8 * d + 5).toNat) ≤ 9999 := hS 31 ((8 * d + 5).toNat) rfl
                  refine T.istore (ls' := [some (rf E 29 0 0), some (.int (iI d)), some (.int (iI t)), some (.int (iI v)), some (.int (iI (bZ ((-1) ≤ v ∧ v ≤ 5)))), some (.int (iI ((8 * d) + 5))), some (.int (iI (S 31 ((8 * d + 5).toNat))))]) dX9_set_151 rfl ?_
                  refine T.aload_n dX9_set_153 rfl ?_
                  refine T.mget (v := rf E 31 0 0) dX9_set_154 fo_X9_7 ok29 rfl rfl ?_
                  refine T.iload dX9_set_157 rfl ?_
                  refine T.iload_n dX9_set_159 rfl ?_
                  refine T.nist (x := (8 * d + 5).toNat) dX9_set_160 rfl ok31 (fun _ => rfl) (by omega) (by omega) ?_
                  refine T.iload dX9_set_161 rfl ?_
                  exact T.iret dX9_set_163 ⟨congrArg (fun z => some (Value.int (iI z))) (Eq.symm (show nsetR S d t v = S 31 ((8 * d + 5).toNat) from by unfold nsetR; rw [if_neg (by omega), if_neg (by omega), if_neg (by omega), if_pos (by omega)] <;> first | rfl | omega)), congrArg (fun z => hp E (wrM m z)) (Eq.symm (show nsetS S d t v = (upT S 31 ((8 * d + 5).toNat) v) from by unfold nsetS; rw [if_neg (by omega), if_neg (by omega), if_neg (by omega), if_pos (by omega)] <;> rfl))⟩
              · refine T.iconst dX9_set_98 ?_
                refine T.goto 141 dX9_set_99 ?_
                refine T.iadd dX9_set_141 ?_
                refine T.istore (ls' := [some (rf E 29 0 0), some (.int (iI d)), some (.int (iI t)), some (.int (iI v)), some (.int (iI (bZ ((-1) ≤ v ∧ v ≤ 5)))), some (.int (iI ((8 * d) + 4))), none]) dX9_set_142 rfl ?_
                refine T.aload_n dX9_set_144 rfl ?_
                refine T.mget (v := rf E 31 0 0) dX9_set_145 fo_X9_7 ok29 rfl rfl ?_
                refine T.iload dX9_set_148 rfl ?_
                refine T.aI (z := S 31 ((8 * d + 4).toNat)) (x := (8 * d + 4).toNat) dX9_set_150 ok31 (fun _ => rfl) (by omega) (by omega) (wrM_c rfl) ?_
                have q55 : -1 ≤ S 31 ((8 * d + 4).toNat) ∧ S 31 ((8 * d + 4).toNat) ≤ 9999 := hS 31 ((8 * d + 4).toNat) rfl
                refine T.istore (ls' := [some (rf E 29 0 0), some (.int (iI d)), some (.int (iI t)), some (.int (iI v)), some (.int (iI (bZ ((-1) ≤ v ∧ v ≤ 5)))), some (.int (iI ((8 * d) + 4))), some (.int (iI (S 31 ((8 * d + 4).toNat))))]) dX9_set_151 rfl ?_
                refine T.aload_n dX9_set_153 rfl ?_
                refine T.mget (v := rf E 31 0 0) dX9_set_154 fo_X9_7 ok29 rfl rfl ?_
                refine T.iload dX9_set_157 rfl ?_
                refine T.iload_n dX9_set_159 rfl ?_
                refine T.nist (x := (8 * d + 4).toNat) dX9_set_160 rfl ok31 (fun _ => rfl) (by omega) (by omega) ?_
                refine T.iload dX9_set_161 rfl ?_
                exact T.iret dX9_set_163 ⟨congrArg (fun z => some (Value.int (iI z))) (Eq.symm (show nsetR S d t v = S 31 ((8 * d + 4).toNat) from by unfold nsetR; rw [if_neg (by omega), if_neg (by omega), if_pos (by omega)] <;> first | rfl | omega)), congrArg (fun z => hp E (wrM m z)) (Eq.symm (show nsetS S d t v = (upT S 31 ((8 * d + 4).toNat) v) from by unfold nsetS; rw [if_neg (by omega), if_neg (by omega), if_pos (by omega)] <;> rfl))⟩
            · refine T.iconst dX9_set_88 ?_
              exact T.iret dX9_set_89 ⟨congrArg (fun z => some (Value.int (iI z))) (Eq.symm (show nsetR S d t v = (-1) from by unfold nsetR; rw [if_neg (by omega), if_pos (by omega)] <;> first | rfl | omega)), congrArg (fun z => hp E (wrM m z)) (Eq.symm (show nsetS S d t v = S from by unfold nsetS; rw [if_neg (by omega), if_pos (by omega)] <;> rfl))⟩
        · refine T.iload_n dX9_set_31 rfl ?_
          refine T.i2l dX9_set_32 (by unfold rg; omega) ?_
          refine T.lconst0 dX9_set_33 ?_
          refine T.lconst1 dX9_set_34 ?_
          refine T.cS1 (As := [.long (lI v), .long (lI 0), .long (lI 1)]) (st := []) dX9_set_35 lk_X9_83 (n_in E _ (by unfold rl; omega) (by unfold rl; omega) (by unfold rl; omega)) (by decide) rfl rfl (Nat.le_of_ble_eq_true rfl) ?_
          refine T.goto 81 dX9_set_38 ?_
          refine T.istore (ls' := [some (rf E 29 0 0), some (.int (iI d)), some (.int (iI t)), some (.int (iI v)), some (.int (iI (bZ (0 ≤ v ∧ v ≤ 1)))), none, none]) dX9_set_81 rfl ?_
          refine T.iload dX9_set_83 rfl ?_
          refine T.ifB_ne 90 dX9_set_85 (fun c56 => ?_) (fun c56 => ?_)
          · refine T.bipush dX9_set_90 ?_
            refine T.iload_n dX9_set_92 rfl ?_
            refine T.imul dX9_set_93 ?_
            refine T.iload_n dX9_set_94 rfl ?_
            refine T.if_ne 102 dX9_set_95 (by unfold rg; omega) (fun c57 => ?_) (fun c57 => ?_)
            · refine T.iload_n dX9_set_102 rfl ?_
              refine T.iconst dX9_set_103 ?_
              refine T.icmp_ne 111 dX9_set_104 (by unfold rg; omega) (by unfold rg; omega) (fun c58 => ?_) (fun c58 => ?_)
              · refine T.iload_n dX9_set_111 rfl ?_
                refine T.iconst dX9_set_112 ?_
                refine T.icmp_ne 121 dX9_set_113 (by unfold rg; omega) (by unfold rg; omega) (fun c59 => ?_) (fun c59 => ?_)
                · refine T.iload_n dX9_set_121 rfl ?_
                  refine T.iconst dX9_set_122 ?_
                  refine T.icmp_ne 131 dX9_set_123 (by unfold rg; omega) (by unfold rg; omega) (fun c60 => ?_) (fun c60 => ?_)
                  · refine T.iload_n dX9_set_131 rfl ?_
                    refine T.iconst dX9_set_132 ?_
                    refine T.icmp_ne 140 dX9_set_133 (by unfold rg; omega) (by unfold rg; omega) (fun c61 => ?_) (fun c61 => ?_)
                    · refine T.iconst dX9_set_140 ?_
                      refine T.iadd dX9_set_141 ?_
                      refine T.istore (ls' := [some (rf E 29 0 0), some (.int (iI d)), some (.int (iI t)), some (.int (iI v)), some (.int (iI (bZ (0 ≤ v ∧ v ≤ 1)))), some (.int (iI ((8 * d) + 2))), none]) dX9_set_142 rfl ?_
                      refine T.aload_n dX9_set_144 rfl ?_
                      refine T.mget (v := rf E 31 0 0) dX9_set_145 fo_X9_7 ok29 rfl rfl ?_
                      refine T.iload dX9_set_148 rfl ?_
                      refine T.aI (z := S 31 ((8 * d + 2).toNat)) (x := (8 * d + 2).toNat) dX9_set_150 ok31 (fun _ => rfl) (by omega) (by omega) (wrM_c rfl) ?_
                      have q62 : -1 ≤ S 31 ((8 * d + 2).toNat) ∧ S 31 ((8 * d + 2).toNat) ≤ 9999 := hS 31 ((8 * d + 2).toNat) rfl
                      refine T.istore (ls' := [some (rf E 29 0 0), some (.int (iI d)), some (.int (iI t)), some (.int (iI v)), some (.int (iI (bZ (0 ≤ v ∧ v ≤ 1)))), some (.int (iI ((8 * d) + 2))), some (.int (iI (S 31 ((8 * d + 2).toNat))))]) dX9_set_151 rfl ?_
                      refine T.aload_n dX9_set_153 rfl ?_
                      refine T.mget (v := rf E 31 0 0) dX9_set_154 fo_X9_7 ok29 rfl rfl ?_
                      refine T.iload dX9_set_157 rfl ?_
                      refine T.iload_n dX9_set_159 rfl ?_
                      refine T.nist (x := (8 * d + 2).toNat) dX9_set_160 rfl ok31 (fun _ => rfl) (by omega) (by omega) ?_
                      refine T.iload dX9_set_161 rfl ?_
                      exact T.iret dX9_set_163 ⟨congrArg (fun z => some (Value.int (iI z))) (Eq.symm (show nsetR S d t v = S 31 ((8 * d + 2).toNat) from by unfold nsetR; rw [if_neg (by omega), if_neg (by omega), if_neg (by omega), if_neg (by omega), if_neg (by omega), if_neg (by omega), if_neg (by omega)] <;> first | rfl | omega)), congrArg (fun z => hp E (wrM m z)) (Eq.symm (show nsetS S d t v = (upT S 31 ((8 * d + 2).toNat) v) from by unfold nsetS; rw [if_neg (by omega), if_neg (by omega), if_neg (by omega), if_neg (by omega), if_neg (by omega), if_neg (by omega), if_neg (by omega)] <;> rfl))⟩
                    · refine T.iconst dX9_set_136 ?_
                      refine T.goto 141 dX9_set_137 ?_
                      refine T.iadd dX9_set_141 ?_
                      refine T.istore (ls' := [some (rf E 29 0 0), some (.int (iI d)), some (.int (iI t)), some (.int (iI v)), some (.int (iI (bZ (0 ≤ v ∧ v ≤ 1)))), some (.int (iI ((8 * d) + 3))), none]) dX9_set_142 rfl ?_
                      refine T.aload_n dX9_set_144 rfl ?_
                      refine T.mget (v := rf E 31 0 0) dX9_set_145 fo_X9_7 ok29 rfl rfl ?_
                      refine T.iload dX9_set_148 rfl ?_
                      refine T.aI (z := S 31 ((8 * d + 3).toNat)) (x := (8 * d + 3).toNat) dX9_set_150 ok31 (fun _ => rfl) (by omega) (by omega) (wrM_c rfl) ?_
                      have q63 : -1 ≤ S 31 ((8 * d + 3).toNat) ∧ S 31 ((8 * d + 3).toNat) ≤ 9999 := hS 31 ((8 * d + 3).toNat) rfl
                      refine T.istore (ls' := [some (rf E 29 0 0), some (.int (iI d)), some (.int (iI t)), some (.int (iI v)), some (.int (iI (bZ (0 ≤ v ∧ v ≤ 1)))), some (.int (iI ((8 * d) + 3))), some (.int (iI (S 31 ((8 * d + 3).toNat))))]) dX9_set_151 rfl ?_
                      refine T.aload_n dX9_set_153 rfl ?_
                      refine T.mget (v := rf E 31 0 0) dX9_set_154 fo_X9_7 ok29 rfl rfl ?_
                      refine T.iload dX9_set_157 rfl ?_
                      refine T.iload_n dX9_set_159 rfl ?_
                      refine T.nist (x := (8 * d + 3).toNat) dX9_set_160 rfl ok31 (fun _ => rfl) (by omega) (by omega) ?_
                      refine T.iload dX9_set_161 rfl ?_
                      exact T.iret dX9_set_163 ⟨congrArg (fun z => some (Value.int (iI z))) (Eq.symm (show nsetR S d t v = S 31 ((8 * d + 3).toNat) from by unfold nsetR; rw [if_neg (by omega), if_neg (by omega), if_neg (by omega), if_neg (by omega), if_neg (by omega), if_neg (by omega), if_pos (by omega)] <;> first | rfl | omega)), congrArg (fun z => hp E (wrM m z)) (Eq.symm (show nsetS S d t v = (upT S 31 ((8 * d + 3).toNat) v) from by unfold nsetS; rw [if_neg (by omega), if_neg (by omega), if_neg (by omega), if_neg (by omega), if_neg (by omega), if_neg (by omega), if_pos (by omega)] <;> rfl))⟩
                  · refine T.bipush dX9_set_126 ?_
                    refine T.goto 141 dX9_set_128 ?_
                    refine T.iadd dX9_set_141 ?_
                    refine T.istore (ls' := [some (rf E 29 0 0), some (.int (iI d)), some (.int (iI t)), some (.int (iI v)), some (.int (iI (bZ (0 ≤ v ∧ v ≤ 1)))), some (.int (iI ((8 * d) + 7))), none]) dX9_set_142 rfl ?_
                    refine T.aload_n dX9_set_144 rfl ?_
                    refine T.mget (v := rf E 31 0 0) dX9_set_145 fo_X9_7 ok29 rfl rfl ?_
                    refine T.iload dX9_set_148 rfl ?_
                    refine T.aI (z := S 31 ((8 * d + 7).toNat)) (x := (8 * d + 7).toNat) dX9_set_150 ok31 (fun _ => rfl) (by omega) (by omega) (wrM_c rfl) ?_
                    have q64 : -1 ≤ S 31 ((8 * d + 7).toNat) ∧ S 31 ((8 * d + 7).toNat) ≤ 9999 := hS 31 ((8 * d + 7).toNat) rfl
                    refine T.istore (ls' := [some (rf E 29 0 0), some (.int (iI d)), some (.int (iI t)), some (.int (iI v)), some (.int (iI (bZ (0 ≤ v ∧ v ≤ 1)))), some (.int (iI ((8 * d) + 7))), some (.int (iI (S 31 ((8 * d + 7).toNat))))]) dX9_set_151 rfl ?_
                    refine T.aload_n dX9_set_153 rfl ?_
                    refine T.mget (v := rf E 31 0 0) dX9_set_154 fo_X9_7 ok29 rfl rfl ?_
                    refine T.iload dX9_set_157 rfl ?_
                    refine T.iload_n dX9_set_159 rfl ?_
                    refine T.nist (x := (8 * d + 7).toNat) dX9_set_160 rfl ok31 (fun _ => rfl) (by omega) (by omega) ?_
                    refine T.iload dX9_set_161 rfl ?_
                    exact T.iret dX9_set_163 ⟨congrArg (fun z => some (Value.int (iI z))) (Eq.symm (show nsetR S d t v = S 31 ((8 * d + 7).toNat) from by unfold nsetR; rw [if_neg (by omega), if_neg (by omega), if_neg (by omega), if_neg (by omega), if_neg (by omega), if_pos (by omega)] <;> first | rfl | omega)), congrArg (fun z => hp E (wrM m z)) (Eq.symm (show nsetS S d t v = (upT S 31 ((8 * d + 7).toNat) v) from by unfold nsetS; rw [if_neg (by omega), if_neg (by omega), if_neg (by omega), if_neg (by omega), if_neg (by omega), if_pos (by omega)] <;> rfl))⟩
                · refine T.bipush dX9_set_116 ?_
                  refine T.goto 141 dX9_set_118 ?_
                  refine T.iadd dX9_set_141 ?_
                  refine T.istore (ls' := [some (rf E 29 0 0), some (.int (iI d)), some (.int (iI t)), some (.int (iI v)), some (.int (iI (bZ (0 ≤ v ∧ v ≤ 1)))), some (.int (iI ((8 * d) + 6))), none]) dX9_set_142 rfl ?_
                  refine T.aload_n dX9_set_144 rfl ?_
                  refine T.mget (v := rf E 31 0 0) dX9_set_145 fo_X9_7 ok29 rfl rfl ?_
                  refine T.iload dX9_set_148 rfl ?_
                  refine T.aI (z := S 31 ((8 * d + 6).toNat)) (x := (8 * d + 6).toNat) dX9_set_150 ok31 (fun _ => rfl) (by omega) (by omega) (wrM_c rfl) ?_
                  have q65 : -1 ≤ S 31 ((8 * d + 6).toNat) ∧ S 31 ((8 * d + 6).toNat) ≤ 9999 := hS 31 ((8 * d + 6).toNat) rfl
                  refine T.istore (ls' := [some (rf E 29 0 0), some (.int (iI d)), some (.int (iI t)), some (.int (iI v)), some (.int (iI (bZ (0 ≤ v ∧ v ≤ 1)))), some (.int (iI ((8 * d) + 6))), some (.int (iI (S 31 ((8 * d + 6).toNat))))]) dX9_set_151 rfl ?_
                  refine T.aload_n dX9_set_153 rfl ?_
                  refine T.mget (v := rf E 31 0 0) dX9_set_154 fo_X9_7 ok29 rfl rfl ?_
                  refine T.iload dX9_set_157 rfl ?_
                  refine T.iload_n dX9_set_159 rfl ?_
                  refine T.nist (x := (8 * d + 6).toNat) dX9_set_160 rfl ok31 (fun _ => rfl) (by omega) (by omega) ?_
                  refine T.iload dX9_set_161 rfl ?_
                  exact T.iret dX9_set_163 ⟨congrArg (fun z => some (Value.int (iI z))) (Eq.symm (show nsetR S d t v = S 31 ((8 * d + 6).toNat) from by unfold nsetR; rw [if_neg (by omega), if_neg (by omega), if_neg (by omega), if_neg (by omega), if_pos (by omega)] <;> first | rfl | omega)), congrArg (fun z => hp E (wrM m z)) (Eq.symm (show nsetS S d t v = (upT S 31 ((8 * d + 6).toNat) v) from by unfold nsetS; rw [if_neg (by omega), if_neg (by omega), if_neg (by omega), if_neg (by omega), if_pos (by omega)] <;> rfl))⟩
              · refine T.iconst dX9_set_107 ?_
                refine T.goto 141 dX9_set_108 ?_
                refine T.iadd dX9_set_141 ?_
                refine T.istore (ls' := [some (rf E 29 0 0), some (.int (iI d)), some (.int (iI t)), some (.int (iI v)), some (.int (iI (bZ (0 ≤ v ∧ v ≤ 1)))), some (.int (iI ((8 * d) + 5))), none]) dX9_set_142 rfl ?_
                refine T.aload_n dX9_set_144 rfl ?_
                refine T.mget (v := rf E 31 0 0) dX9_set_145 fo_X9_7 ok29 rfl rfl ?_
                refine T.iload dX9_set_148 rfl ?_
                refine T.aI (z := S 31 ((8 * d + 5).toNat)) (x := (8 * d + 5).toNat) dX9_set_150 ok31 (fun _ => rfl) (by omega) (by omega) (wrM_c rfl) ?_
                have q66 : -1 ≤ S 31 ((8 * d + 5).toNat) ∧ S 31 ((8 * d + 5).toNat) ≤ 9999 := hS 31 ((8 * d + 5).toNat) rfl
                refine T.istore (ls' := [some (rf E 29 0 0), some (.int (iI d)), some (.int (iI t)), some (.int (iI v)), some (.int (iI (bZ (0 ≤ v ∧ v ≤ 1)))), some (.int (iI ((8 * d) + 5))), some (.int (iI (S 31 ((8 * d + 5).toNat))))]) dX9_set_151 rfl ?_
                refine T.aload_n dX9_set_153 rfl ?_
                refine T.mget (v := rf E 31 0 0) dX9_set_154 fo_X9_7 ok29 rfl rfl ?_
                refine T.iload dX9_set_157 rfl ?_
                refine T.iload_n dX9_set_159 rfl ?_
                refine T.nist (x := (8 * d + 5).toNat) dX9_set_160 rfl ok31 (fun _ => rfl) (by omega) (by omega) ?_
                refine T.iload dX9_set_161 rfl ?_
                exact T.iret dX9_set_163 ⟨congrArg (fun z => some (Value.int (iI z))) (Eq.symm (show nsetR S d t v = S 31 ((8 * d + 5).toNat) from by unfold nsetR; rw [if_neg (by omega), if_neg (by omega), if_neg (by omega), if_pos (by omega)] <;> first | rfl | omega)), congrArg (fun z => hp E (wrM m z)) (Eq.symm (show nsetS S d t v = (upT S 31 ((8 * d + 5).toNat) v) from by unfold nsetS; rw [if_neg (by omega), if_neg (by omega), if_neg (by omega), if_pos (by omega)] <;> rfl))⟩
            · refine T.iconst dX9_set_98 ?_
              refine T.goto 141 dX9_set_99 ?_
              refine T.iadd dX9_set_141 ?_
              refine T.istore (ls' := [some (rf E 29 0 0), some (.int (iI d)), some (.int (iI t)), some (.int (iI v)), some (.int (iI (bZ (0 ≤ v ∧ v ≤ 1)))), some (.int (iI ((8 * d) + 4))), none]) dX9_set_142 rfl ?_
              refine T.aload_n dX9_set_144 rfl ?_
              refine T.mget (v := rf E 31 0 0) dX9_set_145 fo_X9_7 ok29 rfl rfl ?_
              refine T.iload dX9_set_148 rfl ?_
              refine T.aI (z := S 31 ((8 * d + 4).toNat)) (x := (8 * d + 4).toNat) dX9_set_150 ok31 (fun _ => rfl) (by omega) (by omega) (wrM_c rfl) ?_
              have q67 : -1 ≤ S 31 ((8 * d + 4).toNat) ∧ S 31 ((8 * d + 4).toNat) ≤ 9999 := hS 31 ((8 * d + 4).toNat) rfl
              refine T.istore (ls' := [some (rf E 29 0 0), some (.int (iI d)), some (.int (iI t)), some (.int (iI v)), some (.int (iI (bZ (0 ≤ v ∧ v ≤ 1)))), some (.int (iI ((8 * d) + 4))), some (.int (iI (S 31 ((8 * d + 4).toNat))))]) dX9_set_151 rfl ?_
              refine T.aload_n dX9_set_153 rfl ?_
              refine T.mget (v := rf E 31 0 0) dX9_set_154 fo_X9_7 ok29 rfl rfl ?_
              refine T.iload dX9_set_157 rfl ?_
              refine T.iload_n dX9_set_159 rfl ?_
              refine T.nist (x := (8 * d + 4).toNat) dX9_set_160 rfl ok31 (fun _ => rfl) (by omega) (by omega) ?_
              refine T.iload dX9_set_161 rfl ?_
              exact T.iret dX9_set_163 ⟨congrArg (fun z => some (Value.int (iI z))) (Eq.symm (show nsetR S d t v = S 31 ((8 * d + 4).toNat) from by unfold nsetR; rw [if_neg (by omega), if_neg (by omega), if_pos (by omega)] <;> first | rfl | omega)), congrArg (fun z => hp E (wrM m z)) (Eq.symm (show nsetS S d t v = (upT S 31 ((8 * d + 4).toNat) v) from by unfold nsetS; rw [if_neg (by omega), if_neg (by omega), if_pos (by omega)] <;> rfl))⟩
          · refine T.iconst dX9_set_88 ?_
            exact T.iret dX9_set_89 ⟨congrArg (fun z => some (Value.int (iI z))) (Eq.symm (show nsetR S d t v = (-1) from by unfold nsetR; rw [if_neg (by omega), if_pos (by omega)] <;> first | rfl | omega)), congrArg (fun z => hp E (wrM m z)) (Eq.symm (show nsetS S d t v = S from by unfold nsetS; rw [if_neg (by omega), if_pos (by omega)] <;> rfl))⟩
    · refine T.iconst dX9_set_20 ?_
      exact T.iret dX9_set_21 ⟨congrArg (fun z => some (Value.int (iI z))) (Eq.symm (show nsetR S d t v = (-1) from by unfold nsetR; rw [if_pos (by omega)] <;> first | rfl | omega)), congrArg (fun z => hp E (wrM m z)) (Eq.symm (show nsetS S d t v = S from by unfold nsetS; rw [if_pos (by omega)] <;> rfl))⟩
def nadd (S : PS) (y w : Int) : PS := upT (upT (upT (upT (upT S 33 (4 * S 29 2).toNat y) 33 (4 * S 29 2 + 1).toNat w) 33 (4 * S 29 2 + 2).toNat (-1)) 33 (4 * S 29 2 + 3).toNat (-1)) 29 2 (S 29 2 + 1)
set_option maxHeartbeats 4000000 in
set_option maxRecDepth 100000 in
theorem n_addPay (E : Ev) (m : Mem) (S : PS) (y w : Int) (hS : InvS kM S) (hlt : S 29 2 < 12) : CT E 1 mX9_addPayment [rf E 29 0 0, .int (iI y), .int (iI w)] (hp E (wrM m S)) (none) (hp E (wrM m (nadd S y w))) := by
  refine CT.go okX9_addPayment (Nat.le_of_ble_eq_true rfl) ?_
  show T E 1 mX9_addPayment 0 [some (rf E 29 0 0), some (.int (iI y)), some (.int (iI w)), none] [] (hp E (wrM m S)) _
  refine T.iconst dX9_addPayment_0 ?_
  refine T.aload_n dX9_addPayment_1 rfl ?_
  refine T.gI (z := S 29 2) dX9_addPayment_2 fo_X9_91 ok29 rfl rfl (wrM_c rfl) ?_
  have q1 : 0 ≤ S 29 2 ∧ S 29 2 ≤ 12 := hS 29 2 rfl
  refine T.imul dX9_addPayment_5 ?_
  refine T.istore_n (ls' := [some (rf E 29 0 0), some (.int (iI y)), some (.int (iI w)), some (.int (iI (4 * (S 29 2))))]) dX9_addPayment_6 rfl ?_
  refine T.aload_n dX9_addPayment_7 rfl ?_
  refine T.mget (v := rf E 33 0 0) dX9_addPayment_8 fo_X9_13 ok29 rfl rfl ?_
  refine T.iload_n dX9_addPayment_11 rfl ?_
  refine T.iload_n dX9_addPayment_12 rfl ?_
  refine T.nist (x := (4 * (S 29 2)).toNat) dX9_addPayment_13 rfl ok33 (fun _ => rfl) (by omega) (by omega) ?_
  refine T.aload_n dX9_addPayment_14 rfl ?_
  refine T.mget (v := rf E 33 0 0) dX9_addPayment_15 fo_X9_13 ok29 rfl rfl ?_
  refine T.iload_n dX9_addPayment_18 rfl ?_
  refine T.iconst dX9_addPayment_19 ?_
  refine T.iadd dX9_addPayment_20 ?_
  refine T.iload_n dX9_addPayment_21 rfl ?_
  refine T.nist (x := ((4 * (S 29 2)) + 1).toNat) dX9_addPayment_22 rfl ok33 (fun _ => rfl) (by omega) (by omega) ?_
  refine T.aload_n dX9_addPayment_23 rfl ?_
  refine T.mget (v := rf E 33 0 0) dX9_addPayment_24 fo_X9_13 ok29 rfl rfl ?_
  refine T.iload_n dX9_addPayment_27 rfl ?_
  refine T.iconst dX9_addPayment_28 ?_
  refine T.iadd dX9_addPayment_29 ?_
  refine T.iconst dX9_addPayment_30 ?_
  refine T.nist (x := ((4 * (S 29 2)) + 2).toNat) dX9_addPayment_31 rfl ok33 (fun _ => rfl) (by omega) (by omega) ?_
  refine T.aload_n dX9_addPayment_32 rfl ?_
  refine T.mget (v := rf E 33 0 0) dX9_addPayment_33 fo_X9_13 ok29 rfl rfl ?_
  refine T.iload_n dX9_addPayment_36 rfl ?_
  refine T.iconst dX9_addPayment_37 ?_
  refine T.iadd dX9_addPayment_38 ?_
  refine T.iconst dX9_addPayment_39 ?_
  refine T.nist (x := ((4 * (S 29 2)) + 3).toNat) dX9_addPayment_40 rfl ok33 (fun _ => rfl) (by omega) (by omega) ?_
  refine T.aload_n dX9_addPayment_41 rfl ?_
  refine T.dup dX9_addPayment_42 ?_
  refine T.gI (z := S 29 2) dX9_addPayment_43 fo_X9_91 ok29 rfl rfl ((wrM_c rfl).trans (by simp [upT])) ?_
  refine T.iconst dX9_addPayment_46 ?_
  refine T.iadd dX9_addPayment_47 ?_
  refine T.nputI dX9_addPayment_48 fp_X9_91 rfl ok29 rfl rfl (Nat.le_of_ble_eq_true rfl) ?_
  exact T.vret dX9_addPayment_51 ⟨rfl, rfl⟩
def npayR (S : PS) (y w : Int) : Int := if ¬ ((0 ≤ y ∧ y ≤ 299) ∧ 1 ≤ w ∧ w ≤ 9999) then -1 else if S 29 2 = 12 then -3 else S 29 2
def npayS (S : PS) (y w : Int) : PS := if ¬ ((0 ≤ y ∧ y ≤ 299) ∧ 1 ≤ w ∧ w ≤ 9999) then S else if S 29 2 = 12 then S else nadd S y w
set_option maxHeartbeats 4000000 in
set_option maxRecDepth 100000 in
theorem n_pay (E : Ev) (m : Mem) (S : PS) (y w : Int) (hS : InvS kM S) (h1 : rg y) (h2 : rg w) : CT E 3 mX9_pay [rf E 29 0 0, .int (iI y), .int (iI w)] (hp E (wrM m S)) (some (.int (iI (npayR S y w)))) (hp E (wrM m (npayS S y w))) := by
  refine CT.go okX9_pay (Nat.le_of_ble_eq_true rfl) ?_
  show T E 3 mX9_pay 0 [some (rf E 29 0 0), some (.int (iI y)), some (.int (iI w))] [] (hp E (wrM m S)) _
  unfold rg at h1 h2
  refine T.iload_n dX9_pay_0 rfl ?_
  refine T.cS1 (As := [.int (iI y)]) (st := []) dX9_pay_1 lk_X9_96 (n_isDay E _ (by unfold rg; omega)) (by decide) rfl rfl (Nat.le_of_ble_eq_true rfl) ?_
  refine T.ifB_eq 19 dX9_pay_4 (fun c1 => ?_) (fun c1 => ?_)
  · refine T.iconst dX9_pay_19 ?_
    exact T.iret dX9_pay_20 ⟨congrArg (fun z => some (Value.int (iI z))) (Eq.symm (show npayR S y w = (-1) from by unfold npayR; rw [if_pos (by omega)] <;> first | rfl | omega)), congrArg (fun z => hp E (wrM m z)) (Eq.symm (show npayS S y w = S from by unfold npayS; rw [if_pos (by omega)] <;> rfl))⟩
  · refine T.iload_n dX9_pay_7 rfl ?_
    refine T.i2l dX9_pay_8 (by unfold rg; omega) ?_
    refine T.lconst1 dX9_pay_9 ?_
    refine T.ldc2 dX9_pay_10 kl_X9_94 ?_
    refine T.cS1 (As := [.long (lI w), .long (lI 1), .long (lI 9999)]) (st := []) dX9_pay_13 lk_X9_83 (n_in E _ (by unfold rl; omega) (by unfold rl; omega) (by unfold rl; omega)) (by decide) rfl rfl (Nat.le_of_ble_eq_true rfl) ?_
    refine T.ifB_ne 21 dX9_pay_16 (fun c2 => ?_) (fun c2 => ?_)
    · refine T.aload_n dX9_pay_21 rfl ?_
      refine T.gI (z := S 29 2) dX9_pay_22 fo_X9_91 ok29 rfl rfl (wrM_c rfl) ?_
      have q3 : 0 ≤ S 29 2 ∧ S 29 2 ≤ 12 := hS 29 2 rfl
      refine T.bipush dX9_pay_25 ?_
      refine T.icmp_ne 33 dX9_pay_27 (by unfold rg; omega) (by unfold rg; omega) (fun c4 => ?_) (fun c4 => ?_)
      · refine T.aload_n dX9_pay_33 rfl ?_
        refine T.iload_n dX9_pay_34 rfl ?_
        refine T.iload_n dX9_pay_35 rfl ?_
        refine T.cV0 (As := [.int (iI y), .int (iI w)]) (st := []) dX9_pay_36 lk_X9_109 (n_addPay E m S y w hS (by omega)) ok29 rfl rfl (by decide) rfl rfl (Nat.le_of_ble_eq_true rfl) ?_
        have hb1 : (nadd S y w) 29 2 = S 29 2 + 1 := upT_self
        refine T.aload_n dX9_pay_39 rfl ?_
        refine T.gI (z := (nadd S y w) 29 2) dX9_pay_40 fo_X9_91 ok29 rfl rfl (wrM_c rfl) ?_
        refine T.iconst dX9_pay_43 ?_
        refine T.isub dX9_pay_44 ?_
        exact T.iret dX9_pay_45 ⟨congrArg (fun z => some (Value.int (iI z))) (Eq.symm (show npayR S y w = ((nadd S y w) 29 2) - 1 from by unfold npayR; rw [if_neg (by omega), if_neg (by omega)] <;> first | rfl | omega)), congrArg (fun z => hp E (wrM m z)) (Eq.symm (show npayS S y w = (nadd S y w) from by unfold npayS; rw [if_neg (by omega), if_neg (by omega)] <;> rfl))⟩
      · refine T.bipush dX9_pay_30 ?_
        exact T.iret dX9_pay_32 ⟨congrArg (fun z => some (Value.int (iI z))) (Eq.symm (show npayR S y w = (-3) from by unfold npayR; rw [if_neg (by omega), if_pos (by omega)] <;> first | rfl | omega)), congrArg (fun z => hp E (wrM m z)) (Eq.symm (show npayS S y w = S from by unfold npayS; rw [if_neg (by omega), if_pos (by omega)] <;> rfl))⟩
    · refine T.iconst dX9_pay_19 ?_
      exact T.iret dX9_pay_20 ⟨congrArg (fun z => some (Value.int (iI z))) (Eq.symm (show npayR S y w = (-1) from by unfold npayR; rw [if_pos (by omega)] <;> first | rfl | omega)), congrArg (fun z => hp E (wrM m z)) (Eq.symm (show npayS S y w = S from by unfold npayS; rw [if_pos (by omega)] <;> rfl))⟩
def nwordR (S : PS) (p t d : Int) : Int := if ¬ ((0 ≤ p ∧ p ≤ S 29 2 - 1) ∧ (0 ≤ t ∧ t ≤ 1) ∧ (-1 ≤ d ∧ d ≤ S 29 0 - 1)) then -101 else S 33 (4 * p + 2 + t).toNat
def nwordS (S : PS) (p t d : Int) : PS := if ¬ ((0 ≤ p ∧ p ≤ S 29 2 - 1) ∧ (0 ≤ t ∧ t ≤ 1) ∧ (-1 ≤ d ∧ d ≤ S 29 0 - 1)) then S else upT S 33 (4 * p + 2 + t).toNat d
set_option maxHeartbeats 4000000 in
set_option maxRecDepth 100000 in
theorem n_word (E : Ev) (m : Mem) (S : PS) (p t d : Int) (hS : InvS kM S) (h1 : rg p) (h2 : rg t) (h3 : rg d) : CT E 3 mX9_word [rf E 29 0 0, .int (iI p), .int (iI t), .int (iI d)] (hp E (wrM m S)) (some (.int (iI (nwordR S p t d)))) (hp E (wrM m (nwordS S p t d))) := by
  refine CT.go okX9_word (Nat.le_of_ble_eq_true rfl) ?_
  show T E 3 mX9_word 0 [some (rf E 29 0 0), some (.int (iI p)), some (.int (iI t)), some (.int (iI d)), none] [] (hp E (wrM m S)) _
  unfold rg at h1 h2 h3
  refine T.aload_n dX9_word_0 rfl ?_
  refine T.iload_n dX9_word_1 rfl ?_
  refine T.cV1 (As := [.int (iI p)]) (st := []) dX9_word_2 lk_X9_113 (n_isPayment E m S hS (by unfold rg; omega)) ok29 rfl rfl (by decide) rfl rfl (Nat.le_of_ble_eq_true rfl) ?_
  have n1 : (0 ≤ S 29 0 ∧ S 29 0 ≤ 8) ∧ 0 ≤ S 29 2 ∧ S 29 2 ≤ 12 := ⟨hS 29 0 rfl, hS 29 2 rfl⟩
  refine T.ifB_eq 36 dX9_word_5 (fun c2 => ?_) (fun c2 => ?_)
  · refine T.bipush dX9_word_36 ?_
    exact T.iret dX9_word_38 ⟨congrArg (fun z => some (Value.int (iI z))) (Eq.symm (show nwordR S p t d = (-101) from by unfold nwordR; rw [if_pos (by omega)] <;> first | rfl | omega)), congrArg (fun z => hp E (wrM m z)) (Eq.symm (show nwordS S p t d = S from by unfold nwordS; rw [if_pos (by omega)] <;> rfl))⟩
  · refine T.iload_n dX9_word_8 rfl ?_
    refine T.i2l dX9_word_9 (by unfold rg; omega) ?_
    refine T.lconst0 dX9_word_10 ?_
    refine T.lconst1 dX9_word_11 ?_
    refine T.cS1 (As := [.long (lI t), .long (lI 0), .long (lI 1)]) (st := []) dX9_word_12 lk_X9_83 (n_in E _ (by unfold rl; omega) (by unfold rl; omega) (by unfold rl; omega)) (by decide) rfl rfl (Nat.le_of_ble_eq_true rfl) ?_
    refine T.ifB_eq 36 dX9_word_15 (fun c3 => ?_) (fun c3 => ?_)
    · refine T.bipush dX9_word_36 ?_
      exact T.iret dX9_word_38 ⟨congrArg (fun z => some (Value.int (iI z))) (Eq.symm (show nwordR S p t d = (-101) from by unfold nwordR; rw [if_pos (by omega)] <;> first | rfl | omega)), congrArg (fun z => hp E (wrM m z)) (Eq.symm (show nwordS S p t d = S from by unfold nwordS; rw [if_pos (by omega)] <;> rfl))⟩
    · refine T.iload_n dX9_word_18 rfl ?_
      refine T.i2l dX9_word_19 (by unfold rg; omega) ?_
      refine T.ldc2 dX9_word_20 kl_X9_107 ?_
      refine T.aload_n dX9_word_23 rfl ?_
      refine T.gI (z := S 29 0) dX9_word_24 fo_X9_87 ok29 rfl rfl (wrM_c rfl) ?_
      have q4 : 0 ≤ S 29 0 ∧ S 29 0 ≤ 8 := hS 29 0 rfl
      refine T.iconst dX9_word_27 ?_
      refine T.isub dX9_word_28 ?_
      refine T.i2l dX9_word_29 (by unfold rg; omega) ?_
      refine T.cS1 (As := [.long (lI d), .long (lI (-1)), .long (lI ((S 29 0) - 1))]) (st := []) dX9_word_30 lk_X9_83 (n_in E _ (by unfold rl; omega) (by unfold rl; omega) (by unfold rl; omega)) (by decide) rfl rfl (Nat.le_of_ble_eq_true rfl) ?_
      refine T.ifB_ne 39 dX9_word_33 (fun c5 => ?_) (fun c5 => ?_)
      · refine T.aload_n dX9_word_39 rfl ?_
        refine T.mget (v := rf E 33 0 0) dX9_word_40 fo_X9_13 ok29 rfl rfl ?_
        refine T.iconst dX9_word_43 ?_
        refine T.iload_n dX9_word_44 rfl ?_
        refine T.imul dX9_word_45 ?_
        refine T.iconst dX9_word_46 ?_
        refine T.iadd dX9_word_47 ?_
        refine T.iload_n dX9_word_48 rfl ?_
        refine T.iadd dX9_word_49 ?_
        refine T.aI (z := S 33 ((4 * p + 2 + t).toNat)) (x := (4 * p + 2 + t).toNat) dX9_word_50 ok33 (fun _ => rfl) (by omega) (by omega) (wrM_c rfl) ?_
        have q6 : -1 ≤ S 33 ((4 * p + 2 + t).toNat) ∧ S 33 ((4 * p + 2 + t).toNat) ≤ 9999 := hS 33 ((4 * p + 2 + t).toNat) rfl
        refine T.istore (ls' := [some (rf E 29 0 0), some (.int (iI p)), some (.int (iI t)), some (.int (iI d)), some (.int (iI (S 33 ((4 * p + 2 + t).toNat))))]) dX9_word_51 rfl ?_
        refine T.aload_n dX9_word_53 rfl ?_
        refine T.mget (v := rf E 33 0 0) dX9_word_54 fo_X9_13 ok29 rfl rfl ?_
        refine T.iconst dX9_word_57 ?_
        refine T.iload_n dX9_word_58 rfl ?_
        refine T.imul dX9_word_59 ?_
        refine T.iconst dX9_word_60 ?_
        refine T.iadd dX9_word_61 ?_
        refine T.iload_n dX9_word_62 rfl ?_
        refine T.iadd dX9_word_63 ?_
        refine T.iload_n dX9_word_64 rfl ?_
        refine T.nist (x := (4 * p + 2 + t).toNat) dX9_word_65 rfl ok33 (fun _ => rfl) (by omega) (by omega) ?_
        refine T.iload dX9_word_66 rfl ?_
        exact T.iret dX9_word_68 ⟨congrArg (fun z => some (Value.int (iI z))) (Eq.symm (show nwordR S p t d = S 33 ((4 * p + 2 + t).toNat) from by unfold nwordR; rw [if_neg (by omega)] <;> first | rfl | omega)), congrArg (fun z => hp E (wrM m z)) (Eq.symm (show nwordS S p t d = (upT S 33 ((4 * p + 2 + t).toNat) d) from by unfold nwordS; rw [if_neg (by omega)] <;> rfl))⟩
      · refine T.bipush dX9_word_36 ?_
        exact T.iret dX9_word_38 ⟨congrArg (fun z => some (Value.int (iI z))) (Eq.symm (show nwordR S p t d = (-101) from by unfold nwordR; rw [if_pos (by omega)] <;> first | rfl | omega)), congrArg (fun z => hp E (wrM m z)) (Eq.symm (show nwordS S p t d = S from by unfold nwordS; rw [if_pos (by omega)] <;> rfl))⟩
def nmoveR (S : PS) (p y : Int) : Int := if ¬ ((0 ≤ p ∧ p ≤ S 29 2 - 1) ∧ (0 ≤ y ∧ y ≤ 299)) then -1 else S 33 (4 * p).toNat
def nmoveS (S : PS) (p y : Int) : PS := if ¬ ((0 ≤ p ∧ p ≤ S 29 2 - 1) ∧ (0 ≤ y ∧ y ≤ 299)) then S else upT S 33 (4 * p).toNat y
set_option maxHeartbeats 4000000 in
set_option maxRecDepth 100000 in
theorem n_move (E : Ev) (m : Mem) (S : PS) (p y : Int) (hS : InvS kM S) (h1 : rg p) (h2 : rg y) : CT E 3 mX9_move [rf E 29 0 0, .int (iI p), .int (iI y)] (hp E (wrM m S)) (some (.int (iI (nmoveR S p y)))) (hp E (wrM m (nmoveS S p y))) := by
  refine CT.go okX9_move (Nat.le_of_ble_eq_true rfl) ?_
  show T E 3 mX9_move 0 [some (rf E 29 0 0), some (.int (iI p)), some (.int (iI y)), none] [] (hp E (wrM m S)) _
  unfold rg at h1 h2
  refine T.aload_n dX9_move_0 rfl ?_
  refine T.iload_n dX9_move_1 rfl ?_
  refine T.cV1 (As := [.int (iI p)]) (st := []) dX9_move_2 lk_X9_113 (n_isPayment E m S hS (by unfold rg; omega)) ok29 rfl rfl (by decide) rfl rfl (Nat.le_of_ble_eq_true rfl) ?_
  have n1 : (0 ≤ S 29 0 ∧ S 29 0 ≤ 8) ∧ 0 ≤ S 29 2 ∧ S 29 2 ≤ 12 := ⟨hS 29 0 rfl, hS 29 2 rfl⟩
  refine T.ifB_eq 15 dX9_move_5 (fun c2 => ?_) (fun c2 => ?_)
  · refine T.iconst dX9_move_15 ?_
    exact T.iret dX9_move_16 ⟨congrArg (fun z => some (Value.int (iI z))) (Eq.symm (show nmoveR S p y = (-1) from by unfold nmoveR; rw [if_pos (by omega)] <;> first | rfl | omega)), congrArg (fun z => hp E (wrM m z)) (Eq.symm (show nmoveS S p y = S from by unfold nmoveS; rw [if_pos (by omega)] <;> rfl))⟩
  · refine T.iload_n dX9_move_8 rfl ?_
    refine T.cS1 (As := [.int (iI y)]) (st := []) dX9_move_9 lk_X9_96 (n_isDay E _ (by unfold rg; omega)) (by decide) rfl rfl (Nat.le_of_ble_eq_true rfl) ?_
    refine T.ifB_ne 17 dX9_move_12 (fun c3 => ?_) (fun c3 => ?_)
    · refine T.aload_n dX9_move_17 rfl ?_
      refine T.mget (v := rf E 33 0 0) dX9_move_18 fo_X9_13 ok29 rfl rfl ?_
      refine T.iconst dX9_move_21 ?_
      refine T.iload_n dX9_move_22 rfl ?_
      refine T.imul dX9_move_23 ?_
      refine T.aI (z := S 33 ((4 * p).toNat)) (x := (4 * p).toNat) dX9_move_24 ok33 (fun _ => rfl) (by omega) (by omega) (wrM_c rfl) ?_
      have q4 : -1 ≤ S 33 ((4 * p).toNat) ∧ S 33 ((4 * p).toNat) ≤ 9999 := hS 33 ((4 * p).toNat) rfl
      refine T.istore_n (ls' := [some (rf E 29 0 0), some (.int (iI p)), some (.int (iI y)), some (.int (iI (S 33 ((4 * p).toNat))))]) dX9_move_25 rfl ?_
      refine T.aload_n dX9_move_26 rfl ?_
      refine T.mget (v := rf E 33 0 0) dX9_move_27 fo_X9_13 ok29 rfl rfl ?_
      refine T.iconst dX9_move_30 ?_
      refine T.iload_n dX9_move_31 rfl ?_
      refine T.imul dX9_move_32 ?_
      refine T.iload_n dX9_move_33 rfl ?_
      refine T.nist (x := (4 * p).toNat) dX9_move_34 rfl ok33 (fun _ => rfl) (by omega) (by omega) ?_
      refine T.iload_n dX9_move_35 rfl ?_
      exact T.iret dX9_move_36 ⟨congrArg (fun z => some (Value.int (iI z))) (Eq.symm (show nmoveR S p y = S 33 ((4 * p).toNat) from by unfold nmoveR; rw [if_neg (by omega)] <;> first | rfl | omega)), congrArg (fun z => hp E (wrM m z)) (Eq.symm (show nmoveS S p y = (upT S 33 ((4 * p).toNat) y) from by unfold nmoveS; rw [if_neg (by omega)] <;> rfl))⟩
    · refine T.iconst dX9_move_15 ?_
      exact T.iret dX9_move_16 ⟨congrArg (fun z => some (Value.int (iI z))) (Eq.symm (show nmoveR S p y = (-1) from by unfold nmoveR; rw [if_pos (by omega)] <;> first | rfl | omega)), congrArg (fun z => hp E (wrM m z)) (Eq.symm (show nmoveS S p y = S from by unfold nmoveS; rw [if_pos (by omega)] <;> rfl))⟩
def lackR (S : PS) (s : Nat) (la fr n : Int) : Int := if S 56 s ≠ la then (if S 56 s < 0 then -11 else -12) else if 0 ≤ fr ∧ fr ≤ S 57 s - n then 0 else -13
theorem lackR_rg (S : PS) (s : Nat) (la fr n : Int) : -13 ≤ lackR S s la fr n ∧ lackR S s la fr n ≤ 0 := by unfold lackR; (repeat split) <;> omega
set_option maxHeartbeats 4000000 in
set_option maxRecDepth 100000 in
theorem n_lacks (E : Ev) (m : Mem) (S : PS) (s la fr n : Int) (hS : InvS kM S) (h1 : 0 ≤ s ∧ s ≤ 3) (h2 : 0 ≤ la ∧ la ≤ 2) (h3 : rg fr) (h4 : 0 ≤ n ∧ n ≤ 24) : CT E 2 mX9_lacksRow [rf E 29 0 0, .int (iI s), .int (iI la), .int (iI fr), .int (iI n)] (hp E (wrM m S)) (some (.int (iI (lackR S s.toNat la fr n)))) (hp E (wrM m S)) := by
  refine CT.go okX9_lacksRow (Nat.le_of_ble_eq_true rfl) ?_
  show T E 2 mX9_lacksRow 0 [some (rf E 29 0 0), some (.int (iI s)), some (.int (iI la)), some (.int (iI fr)), some (.int (iI n))] [] (hp E (wrM m S)) _
  unfold rg at h3
  refine T.aload_n dX9_lacksRow_0 rfl ?_
  refine T.mget (v := rf E 56 0 0) dX9_lacksRow_1 fo_X9_72 ok29 rfl rfl ?_
  refine T.iload_n dX9_lacksRow_4 rfl ?_
  refine T.aI (z := S 56 s.toNat) (x := s.toNat) dX9_lacksRow_5 ok56 (fun _ => rfl) (by omega) (by omega) (wrM_c rfl) ?_
  have q1 : -1 ≤ S 56 s.toNat ∧ S 56 s.toNat ≤ 2 := hS 56 s.toNat rfl
  refine T.iload_n dX9_lacksRow_6 rfl ?_
  refine T.icmp_eq 27 dX9_lacksRow_7 (by unfold rg; omega) (by unfold rg; omega) (fun c2 => ?_) (fun c2 => ?_)
  · refine T.iload_n dX9_lacksRow_27 rfl ?_
    refine T.i2l dX9_lacksRow_28 (by unfold rg; omega) ?_
    refine T.lconst0 dX9_lacksRow_29 ?_
    refine T.aload_n dX9_lacksRow_30 rfl ?_
    refine T.mget (v := rf E 57 0 0) dX9_lacksRow_31 fo_X9_75 ok29 rfl rfl ?_
    refine T.iload_n dX9_lacksRow_34 rfl ?_
    refine T.aI (z := S 57 s.toNat) (x := s.toNat) dX9_lacksRow_35 ok57 (fun _ => rfl) (by omega) (by omega) (wrM_c rfl) ?_
    have q3 : 0 ≤ S 57 s.toNat ∧ S 57 s.toNat ≤ 24 := hS 57 s.toNat rfl
    refine T.iload dX9_lacksRow_36 rfl ?_
    refine T.isub dX9_lacksRow_38 ?_
    refine T.i2l dX9_lacksRow_39 (by unfold rg; omega) ?_
    refine T.cS1 (As := [.long (lI fr), .long (lI 0), .long (lI ((S 57 s.toNat) - n))]) (st := []) dX9_lacksRow_40 lk_X9_83 (n_in E _ (by unfold rl; omega) (by unfold rl; omega) (by unfold rl; omega)) (by decide) rfl rfl (Nat.le_of_ble_eq_true rfl) ?_
    refine T.ifB_eq 50 dX9_lacksRow_43 (fun c4 => ?_) (fun c4 => ?_)
    · refine T.bipush dX9_lacksRow_50 ?_
      exact T.iret dX9_lacksRow_52 ⟨by congr 3; unfold lackR; (repeat split) <;> omega, rfl⟩
    · refine T.iconst dX9_lacksRow_46 ?_
      refine T.goto 52 dX9_lacksRow_47 ?_
      exact T.iret dX9_lacksRow_52 ⟨by congr 3; unfold lackR; (repeat split) <;> omega, rfl⟩
  · refine T.aload_n dX9_lacksRow_10 rfl ?_
    refine T.mget (v := rf E 56 0 0) dX9_lacksRow_11 fo_X9_72 ok29 rfl rfl ?_
    refine T.iload_n dX9_lacksRow_14 rfl ?_
    refine T.aI (z := S 56 s.toNat) (x := s.toNat) dX9_lacksRow_15 ok56 (fun _ => rfl) (by omega) (by omega) (wrM_c rfl) ?_
    refine T.if_ge 24 dX9_lacksRow_16 (by unfold rg; omega) (fun c5 => ?_) (fun c5 => ?_)
    · refine T.bipush dX9_lacksRow_24 ?_
      exact T.iret dX9_lacksRow_26 ⟨by congr 3; unfold lackR; (repeat split) <;> omega, rfl⟩
    · refine T.bipush dX9_lacksRow_19 ?_
      refine T.goto 26 dX9_lacksRow_21 ?_
      exact T.iret dX9_lacksRow_26 ⟨by congr 3; unfold lackR; (repeat split) <;> omega, rfl⟩
def nshL (S : PS) (s : Int) : Nat → PS
  | 0 => S
  | i + 1 => upT (nshL S s i) 58 (24 * s + (i : Int)).toNat 0
def nsh (S : PS) (s la n : Int) : PS := nshL (upT (upT S 56 s.toNat la) 57 s.toNat n) s 24
def nsheetR (S : PS) (s la n : Int) : Int := if ¬ ((0 ≤ s ∧ s ≤ 3) ∧ (0 ≤ la ∧ la ≤ 2) ∧ n ≤ 24) then -1 else if n < 0 then -14 else n
def nsheetS (S : PS) (s la n : Int) : PS := if ¬ ((0 ≤ s ∧ s ≤ 3) ∧ (0 ≤ la ∧ la ≤ 2) ∧ n ≤ 24) then S else if n < 0 then S else nsh S s la n
set_option maxHeartbeats 4000000 in
set_option maxRecDepth 100000 in
theorem n_sheet_lp (E : Ev) (m : Mem) (S : PS) (s la n : Int) (h1 : 0 ≤ s ∧ s ≤ 3) : ∀ (k : Nat) (i : Nat) (D : PS), 24 - i = k → i ≤ 24 → D = nshL S s i → T E 3 mX9_sheet 40 [some (rf E 29 0 0), some (.int (iI s)), some (.int (iI la)), some (.int (iI n)), some (.int (iI (i : Int)))] [] (hp E (wrM m D)) (fun r' h' => r' = some (.int (iI n)) ∧ h' = hp E (wrM m (nshL S s 24))) := by
  intro k
  induction k using Nat.strongRecOn with
  | ind k ih =>
    intro i D hk hi hD
    refine T.iload dX9_sheet_40 rfl ?_
    refine T.bipush dX9_sheet_42 ?_
    refine T.icmp_ge 66 dX9_sheet_44 (by unfold rg; omega) (by unfold rg; omega) (fun c1 => ?_) (fun c1 => ?_)
    · refine T.iload_n dX9_sheet_66 rfl ?_
      obtain rfl : i = 24 := by omega
      exact T.iret dX9_sheet_67 ⟨rfl, by rw [hD]⟩
    · refine T.aload_n dX9_sheet_47 rfl ?_
      refine T.mget (v := rf E 58 0 0) dX9_sheet_48 fo_X9_78 ok29 rfl rfl ?_
      refine T.bipush dX9_sheet_51 ?_
      refine T.iload_n dX9_sheet_53 rfl ?_
      refine T.imul dX9_sheet_54 ?_
      refine T.iload dX9_sheet_55 rfl ?_
      refine T.iadd dX9_sheet_57 ?_
      refine T.iconst dX9_sheet_58 ?_
      refine T.nist (x := (24 * s + (i : Int)).toNat) dX9_sheet_59 rfl ok58 (fun _ => rfl) (by omega) (by omega) ?_
      refine T.iinc (ls' := [some (rf E 29 0 0), some (.int (iI s)), some (.int (iI la)), some (.int (iI n)), some (.int (iI ((i : Int) + 1)))]) dX9_sheet_60 rfl rfl ?_
      refine T.goto 40 dX9_sheet_63 ?_
      exact ih (24 - (i + 1)) (by omega) (i + 1) _ rfl (by omega) (by rw [hD]; rfl)
set_option maxHeartbeats 4000000 in
set_option maxRecDepth 100000 in
theorem n_sheet (E : Ev) (m : Mem) (S : PS) (s la n : Int) (hS : InvS kM S) (h1 : rg s) (h2 : rg la) (h3 : rg n) : CT E 3 mX9_sheet [rf E 29 0 0, .int (iI s), .int (iI la), .int (iI n)] (hp E (wrM m S)) (some (.int (iI (nsheetR S s la n)))) (hp E (wrM m (nsheetS S s la n))) := by
  refine CT.go okX9_sheet (Nat.le_of_ble_eq_true rfl) ?_
  show T E 3 mX9_sheet 0 [some (rf E 29 0 0), some (.int (iI s)), some (.int (iI la)), some (.int (iI n)), none] [] (hp E (wrM m S)) _
  unfold rg at h1 h2 h3
  refine T.iload_n dX9_sheet_0 rfl ?_
  refine T.iload_n dX9_sheet_1 rfl ?_
  refine T.cS1 (As := [.int (iI s), .int (iI la)]) (st := []) dX9_sheet_2 lk_X9_221 (n_isSheet E _ (by unfold rg; omega) (by unfold rg; omega)) (by decide) rfl rfl (Nat.le_of_ble_eq_true rfl) ?_
  refine T.ifB_eq 14 dX9_sheet_5 (fun c1 => ?_) (fun c1 => ?_)
  · refine T.iconst dX9_sheet_14 ?_
    exact T.iret dX9_sheet_15 ⟨congrArg (fun z => some (Value.int (iI z))) (Eq.symm (show nsheetR S s la n = (-1) from by unfold nsheetR; rw [if_pos (by omega)] <;> first | rfl | omega)), congrArg (fun z => hp E (wrM m z)) (Eq.symm (show nsheetS S s la n = S from by unfold nsheetS; rw [if_pos (by omega)] <;> rfl))⟩
  · refine T.iload_n dX9_sheet_8 rfl ?_
    refine T.bipush dX9_sheet_9 ?_
    refine T.icmp_le 16 dX9_sheet_11 (by unfold rg; omega) (by unfold rg; omega) (fun c2 => ?_) (fun c2 => ?_)
    · refine T.iload_n dX9_sheet_16 rfl ?_
      refine T.if_ge 23 dX9_sheet_17 (by unfold rg; omega) (fun c3 => ?_) (fun c3 => ?_)
      · refine T.aload_n dX9_sheet_23 rfl ?_
        refine T.mget (v := rf E 56 0 0) dX9_sheet_24 fo_X9_72 ok29 rfl rfl ?_
        refine T.iload_n dX9_sheet_27 rfl ?_
        refine T.iload_n dX9_sheet_28 rfl ?_
        refine T.nist (x := s.toNat) dX9_sheet_29 rfl ok56 (fun _ => rfl) (by omega) (by omega) ?_
        refine T.aload_n dX9_sheet_30 rfl ?_
        refine T.mget (v := rf E 57 0 0) dX9_sheet_31 fo_X9_75 ok29 rfl rfl ?_
        refine T.iload_n dX9_sheet_34 rfl ?_
        refine T.iload_n dX9_sheet_35 rfl ?_
        refine T.nist (x := s.toNat) dX9_sheet_36 rfl ok57 (fun _ => rfl) (by omega) (by omega) ?_
        refine T.iconst dX9_sheet_37 ?_
        refine T.istore (ls' := [some (rf E 29 0 0), some (.int (iI s)), some (.int (iI la)), some (.int (iI n)), some (.int (iI 0))]) dX9_sheet_38 rfl ?_
        rw [show nsheetR S s la n = n from by unfold nsheetR; rw [if_neg (by omega), if_neg (by omega)], show nsheetS S s la n = nsh S s la n from by unfold nsheetS; rw [if_neg (by omega), if_neg (by omega)]]
        exact n_sheet_lp E m _ s la n (by omega) _ 0 _ rfl (by omega) rfl
      · refine T.bipush dX9_sheet_20 ?_
        exact T.iret dX9_sheet_22 ⟨congrArg (fun z => some (Value.int (iI z))) (Eq.symm (show nsheetR S s la n = (-14) from by unfold nsheetR; rw [if_neg (by omega), if_pos (by omega)] <;> first | rfl | omega)), congrArg (fun z => hp E (wrM m z)) (Eq.symm (show nsheetS S s la n = S from by unfold nsheetS; rw [if_neg (by omega), if_pos (by omega)] <;> rfl))⟩
    · refine T.iconst dX9_sheet_14 ?_
      exact T.iret dX9_sheet_15 ⟨congrArg (fun z => some (Value.int (iI z))) (Eq.symm (show nsheetR S s la n = (-1) from by unfold nsheetR; rw [if_pos (by omega)] <;> first | rfl | omega)), congrArg (fun z => hp E (wrM m z)) (Eq.symm (show nsheetS S s la n = S from by unfold nsheetS; rw [if_pos (by omega)] <;> rfl))⟩
def ndropR (S : PS) (s : Int) : Int := if ¬ (0 ≤ s ∧ s ≤ 3) then -1 else if S 56 s.toNat < 0 then -11 else S 57 s.toNat
def ndropS (S : PS) (s : Int) : PS := if ¬ (0 ≤ s ∧ s ≤ 3) then S else if S 56 s.toNat < 0 then S else upT S 56 s.toNat (-1)
set_option maxHeartbeats 4000000 in
set_option maxRecDepth 100000 in
theorem n_drop (E : Ev) (m : Mem) (S : PS) (s : Int) (hS : InvS kM S) (h1 : rg s) : CT E 3 mX9_drop [rf E 29 0 0, .int (iI s)] (hp E (wrM m S)) (some (.int (iI (ndropR S s)))) (hp E (wrM m (ndropS S s))) := by
  refine CT.go okX9_drop (Nat.le_of_ble_eq_true rfl) ?_
  show T E 3 mX9_drop 0 [some (rf E 29 0 0), some (.int (iI s))] [] (hp E (wrM m S)) _
  unfold rg at h1
  refine T.iload_n dX9_drop_0 rfl ?_
  refine T.i2l dX9_drop_1 (by unfold rg; omega) ?_
  refine T.lconst0 dX9_drop_2 ?_
  refine T.ldc2 dX9_drop_3 kl_X9_116 ?_
  refine T.cS1 (As := [.long (lI s), .long (lI 0), .long (lI 3)]) (st := []) dX9_drop_6 lk_X9_83 (n_in E _ (by unfold rl; omega) (by unfold rl; omega) (by unfold rl; omega)) (by decide) rfl rfl (Nat.le_of_ble_eq_true rfl) ?_
  refine T.ifB_ne 14 dX9_drop_9 (fun c1 => ?_) (fun c1 => ?_)
  · refine T.aload_n dX9_drop_14 rfl ?_
    refine T.mget (v := rf E 56 0 0) dX9_drop_15 fo_X9_72 ok29 rfl rfl ?_
    refine T.iload_n dX9_drop_18 rfl ?_
    refine T.aI (z := S 56 s.toNat) (x := s.toNat) dX9_drop_19 ok56 (fun _ => rfl) (by omega) (by omega) (wrM_c rfl) ?_
    have q2 : -1 ≤ S 56 s.toNat ∧ S 56 s.toNat ≤ 2 := hS 56 s.toNat rfl
    refine T.if_ge 26 dX9_drop_20 (by unfold rg; omega) (fun c3 => ?_) (fun c3 => ?_)
    · refine T.aload_n dX9_drop_26 rfl ?_
      refine T.mget (v := rf E 56 0 0) dX9_drop_27 fo_X9_72 ok29 rfl rfl ?_
      refine T.iload_n dX9_drop_30 rfl ?_
      refine T.iconst dX9_drop_31 ?_
      refine T.nist (x := s.toNat) dX9_drop_32 rfl ok56 (fun _ => rfl) (by omega) (by omega) ?_
      refine T.aload_n dX9_drop_33 rfl ?_
      refine T.mget (v := rf E 57 0 0) dX9_drop_34 fo_X9_75 ok29 rfl rfl ?_
      refine T.iload_n dX9_drop_37 rfl ?_
      refine T.aI (z := S 57 s.toNat) (x := s.toNat) dX9_drop_38 ok57 (fun _ => rfl) (by omega) (by omega) ((wrM_c rfl).trans (by simp [upT])) ?_
      have q4 : 0 ≤ S 57 s.toNat ∧ S 57 s.toNat ≤ 24 := hS 57 s.toNat rfl
      exact T.iret dX9_drop_39 ⟨congrArg (fun z => some (Value.int (iI z))) (Eq.symm (show ndropR S s = S 57 s.toNat from by unfold ndropR; rw [if_neg (by omega), if_neg (by omega)] <;> first | rfl | omega)), congrArg (fun z => hp E (wrM m z)) (Eq.symm (show ndropS S s = (upT S 56 s.toNat (-1)) from by unfold ndropS; rw [if_neg (by omega), if_neg (by omega)] <;> rfl))⟩
    · refine T.bipush dX9_drop_23 ?_
      exact T.iret dX9_drop_25 ⟨congrArg (fun z => some (Value.int (iI z))) (Eq.symm (show ndropR S s = (-11) from by unfold ndropR; rw [if_neg (by omega), if_pos (by omega)] <;> first | rfl | omega)), congrArg (fun z => hp E (wrM m z)) (Eq.symm (show ndropS S s = S from by unfold ndropS; rw [if_neg (by omega), if_pos (by omega)] <;> rfl))⟩
  · refine T.iconst dX9_drop_12 ?_
    exact T.iret dX9_drop_13 ⟨congrArg (fun z => some (Value.int (iI z))) (Eq.symm (show ndropR S s = (-1) from by unfold ndropR; rw [if_pos (by omega)] <;> first | rfl | omega)), congrArg (fun z => hp E (wrM m z)) (Eq.symm (show ndropS S s = S from by unfold ndropS; rw [if_pos (by omega)] <;> rfl))⟩
def s8 (v : Int) : Int := (iI v <<< (iI 24 &&& 31) >>> (iI 24 &&& 31)).toInt
def s16 (v : Int) : Int := (iI v <<< (iI 16 &&& 31) >>> (iI 16 &&& 31)).toInt
def nrM (la v : Int) : Int := if la = 0 then s8 v else if la = 1 then s16 v else v
def nitemR (S : PS) (s la i v : Int) : Int := if ¬ ((0 ≤ s ∧ s ≤ 3) ∧ 0 ≤ la ∧ la ≤ 2) then -1 else if lackR S s.toNat la i 1 < 0 then lackR S s.toNat la i 1 else if la = 0 then 1 else if la = 1 then 1 else 1
def nitemS (S : PS) (s la i v : Int) : PS := if ¬ ((0 ≤ s ∧ s ≤ 3) ∧ 0 ≤ la ∧ la ≤ 2) then S else if lackR S s.toNat la i 1 < 0 then S else if la = 0 then upT S 58 (24 * s + i).toNat (s8 v) else if la = 1 then upT S 58 (24 * s + i).toNat (s16 v) else upT S 58 (24 * s + i).toNat v
theorem lackR_in {S : PS} {s : Nat} {la fr n : Int} (h : ¬ lackR S s la fr n < 0) : S 56 s = la ∧ 0 ≤ fr ∧ fr ≤ S 57 s - n := by
  unfold lackR at h
  split at h
  · exfalso; split at h <;> omega
  · split at h
    · omega
    · omega
set_option maxHeartbeats 4000000 in
set_option maxRecDepth 100000 in
theorem n_item (E : Ev) (m : Mem) (S : PS) (s la i v : Int) (hS : InvS kM S) (h1 : rg s) (h2 : rg la) (h3 : rg i) : CT E 3 mX9_item [rf E 29 0 0, .int (iI s), .int (iI la), .int (iI i), .int (iI v)] (hp E (wrM m S)) (some (.int (iI (nitemR S s la i v)))) (hp E (wrM m (nitemS S s la i v))) := by
  refine CT.go okX9_item (Nat.le_of_ble_eq_true rfl) ?_
  show T E 3 mX9_item 0 [some (rf E 29 0 0), some (.int (iI s)), some (.int (iI la)), some (.int (iI i)), some (.int (iI v)), none] [] (hp E (wrM m S)) _
  unfold rg at h1 h2 h3
  refine T.iload_n dX9_item_0 rfl ?_
  refine T.iload_n dX9_item_1 rfl ?_
  refine T.cS1 (As := [.int (iI s), .int (iI la)]) (st := []) dX9_item_2 lk_X9_221 (n_isSheet E _ (by unfold rg; omega) (by unfold rg; omega)) (by decide) rfl rfl (Nat.le_of_ble_eq_true rfl) ?_
  refine T.ifB_ne 10 dX9_item_5 (fun c1 => ?_) (fun c1 => ?_)
  · refine T.aload_n dX9_item_10 rfl ?_
    refine T.iload_n dX9_item_11 rfl ?_
    refine T.iload_n dX9_item_12 rfl ?_
    refine T.iload_n dX9_item_13 rfl ?_
    refine T.iconst dX9_item_14 ?_
    refine T.cV1 (As := [.int (iI s), .int (iI la), .int (iI i), .int (iI 1)]) (st := []) dX9_item_15 lk_X9_224 (n_lacks E m S s la i 1 hS (by omega) (by omega) (by unfold rg; omega) (by omega)) ok29 rfl rfl (by decide) rfl rfl (Nat.le_of_ble_eq_true rfl) ?_
    have n2 := lackR_rg S s.toNat la i 1
    refine T.istore (ls' := [some (rf E 29 0 0), some (.int (iI s)), some (.int (iI la)), some (.int (iI i)), some (.int (iI v)), some (.int (iI (lackR S s.toNat la i 1)))]) dX9_item_18 rfl ?_
    refine T.iload dX9_item_20 rfl ?_
    refine T.if_ge 28 dX9_item_22 (by unfold rg; omega) (fun c3 => ?_) (fun c3 => ?_)
    · have hz := lackR_in (S := S) (s := s.toNat) (la := la) (fr := i) (n := 1) (by omega)
      have z1 : 0 ≤ S 57 s.toNat ∧ S 57 s.toNat ≤ 24 := hS 57 s.toNat rfl
      refine T.aload_n dX9_item_28 rfl ?_
      refine T.mget (v := rf E 58 0 0) dX9_item_29 fo_X9_78 ok29 rfl rfl ?_
      refine T.bipush dX9_item_32 ?_
      refine T.iload_n dX9_item_34 rfl ?_
      refine T.imul dX9_item_35 ?_
      refine T.iload_n dX9_item_36 rfl ?_
      refine T.iadd dX9_item_37 ?_
      refine T.iload_n dX9_item_38 rfl ?_
      refine T.if_ne 53 dX9_item_39 (by unfold rg; omega) (fun c4 => ?_) (fun c4 => ?_)
      · refine T.iload_n dX9_item_53 rfl ?_
        refine T.iconst dX9_item_54 ?_
        refine T.icmp_ne 69 dX9_item_55 (by unfold rg; omega) (by unfold rg; omega) (fun c5 => ?_) (fun c5 => ?_)
        · refine T.iload dX9_item_69 rfl ?_
          refine T.nist (x := (24 * s + i).toNat) dX9_item_71 rfl ok58 (fun _ => rfl) (by omega) (by omega) ?_
          refine T.iconst dX9_item_72 ?_
          exact T.iret dX9_item_73 ⟨congrArg (fun z => some (Value.int (iI z))) (Eq.symm (show nitemR S s la i v = 1 from by unfold nitemR; rw [if_neg (by omega), if_neg (by omega), if_neg (by omega), if_neg (by omega)] <;> first | rfl | omega)), congrArg (fun z => hp E (wrM m z)) (Eq.symm (show nitemS S s la i v = (upT S 58 ((24 * s + i).toNat) v) from by unfold nitemS; rw [if_neg (by omega), if_neg (by omega), if_neg (by omega), if_neg (by omega)] <;> rfl))⟩
        · refine T.iload dX9_item_58 rfl ?_
          refine T.bipush dX9_item_60 ?_
          refine T.ishl dX9_item_62 ?_
          refine T.bipush dX9_item_63 ?_
          refine T.ishr dX9_item_65 ?_
          refine T.topi (z := s16 v) (iI_of _).symm ?_
          refine T.goto 71 dX9_item_66 ?_
          refine T.nist (x := (24 * s + i).toNat) dX9_item_71 rfl ok58 (fun _ => rfl) (by omega) (by omega) ?_
          refine T.iconst dX9_item_72 ?_
          exact T.iret dX9_item_73 ⟨congrArg (fun z => some (Value.int (iI z))) (Eq.symm (show nitemR S s la i v = 1 from by unfold nitemR; rw [if_neg (by omega), if_neg (by omega), if_neg (by omega), if_pos (by omega)] <;> first | rfl | omega)), congrArg (fun z => hp E (wrM m z)) (Eq.symm (show nitemS S s la i v = (upT S 58 ((24 * s + i).toNat) (s16 v)) from by unfold nitemS; rw [if_neg (by omega), if_neg (by omega), if_neg (by omega), if_pos (by omega)] <;> rfl))⟩
      · refine T.iload dX9_item_42 rfl ?_
        refine T.bipush dX9_item_44 ?_
        refine T.ishl dX9_item_46 ?_
        refine T.bipush dX9_item_47 ?_
        refine T.ishr dX9_item_49 ?_
        refine T.topi (z := s8 v) (iI_of _).symm ?_
        refine T.goto 71 dX9_item_50 ?_
        refine T.nist (x := (24 * s + i).toNat) dX9_item_71 rfl ok58 (fun _ => rfl) (by omega) (by omega) ?_
        refine T.iconst dX9_item_72 ?_
        exact T.iret dX9_item_73 ⟨congrArg (fun z => some (Value.int (iI z))) (Eq.symm (show nitemR S s la i v = 1 from by unfold nitemR; rw [if_neg (by omega), if_neg (by omega), if_pos (by omega)] <;> first | rfl | omega)), congrArg (fun z => hp E (wrM m z)) (Eq.symm (show nitemS S s la i v = (upT S 58 ((24 * s + i).toNat) (s8 v)) from by unfold nitemS; rw [if_neg (by omega), if_neg (by omega), if_pos (by omega)] <;> rfl))⟩
    · refine T.iload dX9_item_25 rfl ?_
      exact T.iret dX9_item_27 ⟨congrArg (fun z => some (Value.int (iI z))) (Eq.symm (show nitemR S s la i v = lackR S s.toNat la i 1 from by unfold nitemR; rw [if_neg (by omega), if_pos (by omega)] <;> first | rfl | omega)), congrArg (fun z => hp E (wrM m z)) (Eq.symm (show nitemS S s la i v = S from by unfold nitemS; rw [if_neg (by omega), if_pos (by omega)] <;> rfl))⟩
  · refine T.iconst dX9_item_8 ?_
    exact T.iret dX9_item_9 ⟨congrArg (fun z => some (Value.int (iI z))) (Eq.symm (show nitemR S s la i v = (-1) from by unfold nitemR; rw [if_pos (by omega)] <;> first | rfl | omega)), congrArg (fun z => hp E (wrM m z)) (Eq.symm (show nitemS S s la i v = S from by unfold nitemS; rw [if_pos (by omega)] <;> rfl))⟩
def nletterR (S : PS) (l i : Int) : Int := if ¬ (0 ≤ l ∧ l ≤ 1) ∨ i < 0 then -1 else if i < S 37 l.toNat then S 36 (12 * l + i).toNat else -4
def nletterS (S : PS) (l i : Int) : PS := if ¬ (0 ≤ l ∧ l ≤ 1) ∨ i < 0 then S else if i < S 37 l.toNat then S else S
set_option maxHeartbeats 4000000 in
set_option maxRecDepth 100000 in
theorem n_letter (E : Ev) (m : Mem) (S : PS) (l i : Int) (hS : InvS kM S) (h1 : rg l) (h2 : rg i) : CT E 3 mX9_letter [rf E 29 0 0, .int (iI l), .int (iI i)] (hp E (wrM m S)) (some (.int (iI (nletterR S l i)))) (hp E (wrM m (nletterS S l i))) := by
  refine CT.go okX9_letter (Nat.le_of_ble_eq_true rfl) ?_
  show T E 3 mX9_letter 0 [some (rf E 29 0 0), some (.int (iI l)), some (.int (iI i))] [] (hp E (wrM m S)) _
  unfold rg at h1 h2
  refine T.iload_n dX9_letter_0 rfl ?_
  refine T.cS1 (As := [.int (iI l)]) (st := []) dX9_letter_1 lk_X9_129 (n_isLaw E _ (by unfold rg; omega)) (by decide) rfl rfl (Nat.le_of_ble_eq_true rfl) ?_
  refine T.ifB_eq 11 dX9_letter_4 (fun c1 => ?_) (fun c1 => ?_)
  · refine T.iconst dX9_letter_11 ?_
    refine T.goto 41 dX9_letter_12 ?_
    exact T.iret dX9_letter_41 ⟨congrArg (fun z => some (Value.int (iI z))) (Eq.symm (show nletterR S l i = (-1) from by unfold nletterR; rw [if_pos (by omega)] <;> first | rfl | omega)), congrArg (fun z => hp E (wrM m z)) (Eq.symm (show nletterS S l i = S from by unfold nletterS; rw [if_pos (by omega)] <;> rfl))⟩
  · refine T.iload_n dX9_letter_7 rfl ?_
    refine T.if_ge 15 dX9_letter_8 (by unfold rg; omega) (fun c2 => ?_) (fun c2 => ?_)
    · refine T.iload_n dX9_letter_15 rfl ?_
      refine T.aload_n dX9_letter_16 rfl ?_
      refine T.mget (v := rf E 37 0 0) dX9_letter_17 fo_X9_22 ok29 rfl rfl ?_
      refine T.iload_n dX9_letter_20 rfl ?_
      refine T.aI (z := S 37 l.toNat) (x := l.toNat) dX9_letter_21 ok37 (fun _ => rfl) (by omega) (by omega) (wrM_c rfl) ?_
      have q3 : 0 ≤ S 37 l.toNat ∧ S 37 l.toNat ≤ 12 := hS 37 l.toNat rfl
      refine T.icmp_ge 39 dX9_letter_22 (by unfold rg; omega) (by unfold rg; omega) (fun c4 => ?_) (fun c4 => ?_)
      · refine T.bipush dX9_letter_39 ?_
        exact T.iret dX9_letter_41 ⟨congrArg (fun z => some (Value.int (iI z))) (Eq.symm (show nletterR S l i = (-4) from by unfold nletterR; rw [if_neg (by omega), if_neg (by omega)] <;> first | rfl | omega)), congrArg (fun z => hp E (wrM m z)) (Eq.symm (show nletterS S l i = S from by unfold nletterS; rw [if_neg (by omega), if_neg (by omega)] <;> rfl))⟩
      · refine T.aload_n dX9_letter_25 rfl ?_
        refine T.mget (v := rf E 36 0 0) dX9_letter_26 fo_X9_19 ok29 rfl rfl ?_
        refine T.bipush dX9_letter_29 ?_
        refine T.iload_n dX9_letter_31 rfl ?_
        refine T.imul dX9_letter_32 ?_
        refine T.iload_n dX9_letter_33 rfl ?_
        refine T.iadd dX9_letter_34 ?_
        refine T.aI (z := S 36 ((12 * l + i).toNat)) (x := (12 * l + i).toNat) dX9_letter_35 ok36 (fun _ => rfl) (by omega) (by omega) (wrM_c rfl) ?_
        have q5 : 0 ≤ S 36 ((12 * l + i).toNat) ∧ S 36 ((12 * l + i).toNat) ≤ 127 := hS 36 ((12 * l + i).toNat) rfl
        refine T.goto 41 dX9_letter_36 ?_
        exact T.iret dX9_letter_41 ⟨congrArg (fun z => some (Value.int (iI z))) (Eq.symm (show nletterR S l i = S 36 ((12 * l + i).toNat) from by unfold nletterR; rw [if_neg (by omega), if_pos (by omega)] <;> first | rfl | omega)), congrArg (fun z => hp E (wrM m z)) (Eq.symm (show nletterS S l i = S from by unfold nletterS; rw [if_neg (by omega), if_pos (by omega)] <;> rfl))⟩
    · refine T.iconst dX9_letter_11 ?_
      refine T.goto 41 dX9_letter_12 ?_
      exact T.iret dX9_letter_41 ⟨congrArg (fun z => some (Value.int (iI z))) (Eq.symm (show nletterR S l i = (-1) from by unfold nletterR; rw [if_pos (by omega)] <;> first | rfl | omega)), congrArg (fun z => hp E (wrM m z)) (Eq.symm (show nletterS S l i = S from by unfold nletterS; rw [if_pos (by omega)] <;> rfl))⟩
set_option maxHeartbeats 4000000 in
set_option maxRecDepth 100000 in
theorem n_leftOf (E : Ev) (m : Mem) (S : PS) (d : Nat) (hd : d < 8) : CT E 1 mX9_leftOf [rf E 29 0 0, .int (iI (d : Int))] (hp E (wrM m S)) (some (.long (lI (S 39 d + S 40 d)))) (hp E (wrM m S)) := by
  refine CT.go okX9_leftOf (Nat.le_of_ble_eq_true rfl) ?_
  show T E 1 mX9_leftOf 0 [some (rf E 29 0 0), some (.int (iI (d : Int)))] [] (hp E (wrM m S)) _
  refine T.aload_n dX9_leftOf_0 rfl ?_
  refine T.mget (v := rf E 39 0 0) dX9_leftOf_1 fo_X9_28 ok29 rfl rfl ?_
  refine T.iload_n dX9_leftOf_4 rfl ?_
  refine T.aL (z := S 39 d) (x := d) dX9_leftOf_5 ok39 (fun _ => rfl) rfl (by omega) (wrM_c rfl) ?_
  refine T.aload_n dX9_leftOf_6 rfl ?_
  refine T.mget (v := rf E 40 0 0) dX9_leftOf_7 fo_X9_32 ok29 rfl rfl ?_
  refine T.iload_n dX9_leftOf_10 rfl ?_
  refine T.aL (z := S 40 d) (x := d) dX9_leftOf_11 ok40 (fun _ => rfl) rfl (by omega) (wrM_c rfl) ?_
  refine T.ladd dX9_leftOf_12 ?_
  exact T.lret dX9_leftOf_13 ⟨rfl, rfl⟩
set_option maxHeartbeats 4000000 in
set_option maxRecDepth 100000 in
theorem n_has_lp (E : Ev) (m : Mem) (S : PS) (l : Nat) (c : Int) (hS : InvS kM S) (hl : l < 2) (hc : 0 ≤ c ∧ c ≤ 127) (n : Nat) (hn : S 37 l = n) : ∀ (k : Nat) (i : Nat), n - i = k → i ≤ n → T E 1 mX9_has 5 [some (rf E 29 0 0), some (.int (iI (l : Int))), some (.int (iI c)), some (.int (iI (bZ (hmL (fun k => S 36 (12 * l + k)) c i = true)))), some (.int (iI (i : Int)))] [] (hp E (wrM m S)) (fun r' h' => r' = some (.int (iI (bZ (hasM S l c)))) ∧ h' = (hp E (wrM m S))) := by
  intro k
  induction k using Nat.strongRecOn with
  | ind k ih =>
    intro i hk hi
    refine T.iload dX9_has_5 rfl ?_
    refine T.aload_n dX9_has_7 rfl ?_
    refine T.mget (v := rf E 37 0 0) dX9_has_8 fo_X9_22 ok29 rfl rfl ?_
    refine T.iload_n dX9_has_11 rfl ?_
    refine T.aI (z := S 37 l) (x := l) dX9_has_12 ok37 (fun _ => rfl) rfl (by omega) (wrM_c rfl) ?_
    have q1 : 0 ≤ S 37 l ∧ S 37 l ≤ 12 := hS 37 l rfl
    refine T.icmp_ge 48 dX9_has_13 (by unfold rg; omega) (by unfold rg; omega) (fun c2 => ?_) (fun c2 => ?_)
    · refine T.iload_n dX9_has_48 rfl ?_
      exact T.zret dX9_has_49 (narZ (bZ_01 _)) ⟨by rw [show i = (S 37 l).toNat from by omega], rfl⟩
    · refine T.iload_n dX9_has_16 rfl ?_
      refine T.ifB_ne 36 dX9_has_17 (fun c3 => ?_) (fun c3 => ?_)
      · refine T.iconst dX9_has_36 ?_
        refine T.goto 41 dX9_has_37 ?_
        refine T.istore_n (ls' := [some (rf E 29 0 0), some (.int (iI (l : Int))), some (.int (iI c)), some (.int (iI 1)), some (.int (iI (i : Int)))]) dX9_has_41 rfl ?_
        refine T.iinc (ls' := [some (rf E 29 0 0), some (.int (iI (l : Int))), some (.int (iI c)), some (.int (iI 1)), some (.int (iI ((i : Int) + 1)))]) dX9_has_42 rfl rfl ?_
        refine T.goto 5 dX9_has_45 ?_
        have h0 := ih (n - (i + 1)) (by omega) (i + 1) rfl (by omega)
        rw [show bZ (hmL (fun k => S 36 (12 * l + k)) c (i + 1) = true) = 1 from (bZ_t (by show ((hmL (fun k => S 36 (12 * l + k)) c i) || decide (S 36 (12 * l + i) = c)) = true; simp; first | (left; assumption) | (right; omega)))] at h0
        exact h0
      · refine T.aload_n dX9_has_20 rfl ?_
        refine T.mget (v := rf E 36 0 0) dX9_has_21 fo_X9_19 ok29 rfl rfl ?_
        refine T.bipush dX9_has_24 ?_
        refine T.iload_n dX9_has_26 rfl ?_
        refine T.imul dX9_has_27 ?_
        refine T.iload dX9_has_28 rfl ?_
        refine T.iadd dX9_has_30 ?_
        refine T.aI (z := S 36 ((12 * l) + i)) (x := (12 * l) + i) dX9_has_31 ok36 (fun _ => rfl) (by omega) (by omega) (wrM_c rfl) ?_
        have q4 : 0 ≤ S 36 ((12 * l) + i) ∧ S 36 ((12 * l) + i) ≤ 127 := hS 36 ((12 * l) + i) rfl
        refine T.iload_n dX9_has_32 rfl ?_
        refine T.icmp_ne 40 dX9_has_33 (by unfold rg; omega) (by unfold rg; omega) (fun c5 => ?_) (fun c5 => ?_)
        · refine T.iconst dX9_has_40 ?_
          refine T.istore_n (ls' := [some (rf E 29 0 0), some (.int (iI (l : Int))), some (.int (iI c)), some (.int (iI 0)), some (.int (iI (i : Int)))]) dX9_has_41 rfl ?_
          refine T.iinc (ls' := [some (rf E 29 0 0), some (.int (iI (l : Int))), some (.int (iI c)), some (.int (iI 0)), some (.int (iI ((i : Int) + 1)))]) dX9_has_42 rfl rfl ?_
          refine T.goto 5 dX9_has_45 ?_
          have h0 := ih (n - (i + 1)) (by omega) (i + 1) rfl (by omega)
          rw [show bZ (hmL (fun k => S 36 (12 * l + k)) c (i + 1) = true) = 0 from (bZ_f (by show ¬ (((hmL (fun k => S 36 (12 * l + k)) c i) || decide (S 36 (12 * l + i) = c)) = true); simp; refine ⟨by simpa using ‹¬ _ = true›, by omega⟩))] at h0
          exact h0
        · refine T.iconst dX9_has_36 ?_
          refine T.goto 41 dX9_has_37 ?_
          refine T.istore_n (ls' := [some (rf E 29 0 0), some (.int (iI (l : Int))), some (.int (iI c)), some (.int (iI 1)), some (.int (iI (i : Int)))]) dX9_has_41 rfl ?_
          refine T.iinc (ls' := [some (rf E 29 0 0), some (.int (iI (l : Int))), some (.int (iI c)), some (.int (iI 1)), some (.int (iI ((i : Int) + 1)))]) dX9_has_42 rfl rfl ?_
          refine T.goto 5 dX9_has_45 ?_
          have h0 := ih (n - (i + 1)) (by omega) (i + 1) rfl (by omega)
          rw [show bZ (hmL (fun k => S 36 (12 * l + k)) c (i + 1) = true) = 1 from (bZ_t (by show ((hmL (fun k => S 36 (12 * l + k)) c i) || decide (S 36 (12 * l + i) = c)) = true; simp; first | (left; assumption) | (right; omega)))] at h0
          exact h0
set_option maxHeartbeats 4000000 in
set_option maxRecDepth 100000 in
theorem n_has (E : Ev) (m : Mem) (S : PS) (l : Nat) (c : Int) (hS : InvS kM S) (hl : l < 2) (hc : 0 ≤ c ∧ c ≤ 127) : CT E 1 mX9_has [rf E 29 0 0, .int (iI (l : Int)), .int (iI c)] (hp E (wrM m S)) (some (.int (iI (bZ (hasM S l c))))) (hp E (wrM m S)) := by
  refine CT.go okX9_has (Nat.le_of_ble_eq_true rfl) ?_
  show T E 1 mX9_has 0 [some (rf E 29 0 0), some (.int (iI (l : Int))), some (.int (iI c)), none, none] [] (hp E (wrM m S)) _
  have hn8 : 0 ≤ S 37 l ∧ S 37 l ≤ 12 := hS 37 l rfl
  refine T.iconst dX9_has_0 ?_
  refine T.istore_n (ls' := [some (rf E 29 0 0), some (.int (iI (l : Int))), some (.int (iI c)), some (.int (iI 0)), none]) dX9_has_1 rfl ?_
  refine T.iconst dX9_has_2 ?_
  refine T.istore (ls' := [some (rf E 29 0 0), some (.int (iI (l : Int))), some (.int (iI c)), some (.int (iI 0)), some (.int (iI 0))]) dX9_has_3 rfl ?_
  have h0 := n_has_lp E m S l c hS hl hc _ (Int.toNat_of_nonneg hn8.1).symm _ 0 rfl (Nat.zero_le _)
  rw [show bZ (hmL (fun k => S 36 (12 * l + k)) c 0 = true) = 0 from bZ_f (by simp [hmL])] at h0
  exact h0
