theorem dist_CB {β L S : PS} {a c : Int} (h : InvS kC S) (hn : (β 12 0).toNat ≤ 8) (hB : CB β S) : CB β (distS β L S a c) := by
  obtain ⟨-, j2, j3, -⟩ := distS_inv (β := β) (L := L) (a := a) (c := c) h hn
  intro d hd
  rw [j3]
  exact Int.le_trans (j2 d) (hB d hd)
noncomputable def plT (β L S : PS) (w x : Int) : PS := distS β L (gbS β L S x) (w * 10000) (-1)
noncomputable def plF (β L : PS) (n : Nat) (w e t : Int) : Nat → Int → PS → Int × PS
  | 0, _, S => (-4, S)
  | k + 1, x, S => if 299 < x then (-4, S) else if owedL β (plT β L S w x) n = 0 then (if t = 0 then x else plT β L S w x 10 13, plT β L S w x) else plF β L n w e t k (x + e) (plT β L S w x)
set_option maxHeartbeats 4000000 in
set_option maxRecDepth 100000 in
theorem c_plan_lp (E : Ev) (M : Mem) (w e t : Int) (hM : Inv M) (hw : 1 ≤ w ∧ w ≤ 9999) (he : 1 ≤ e ∧ e ≤ 60) (ht : 0 ≤ t ∧ t ≤ 1) : ∀ (k : Nat) (x : Int) (S : PS), (300 - x).toNat < k → (0 ≤ x ∧ x ≤ 359) → InvS kC S → CB (bk M (2 + 0)) S → T E 7 mX8_plan 55 [some (rf E 0 0 0), none, some (.int (iI w)), none, some (.int (iI e)), some (.int (iI t)), some (.int (iI x))] [] (hp E (wrC M 0 S)) (fun r' h' => r' = some (.long (lI (plF (bk M (2 + 0)) (lw M (16 + 0)) (M 1 (2 + 0) 0 1).toNat w e t k x S).1)) ∧ h' = hp E (wrC M 0 (plF (bk M (2 + 0)) (lw M (16 + 0)) (M 1 (2 + 0) 0 1).toNat w e t k x S).2)) := by
  have hn8 : 0 ≤ M 1 (2 + 0) 0 1 ∧ M 1 (2 + 0) 0 1 ≤ 8 := hM 1 (2 + 0) 0 1
  intro k
  induction k with
  | zero => intro x S hk; omega
  | succ kk ih =>
    intro x S hk hx hS hB
    refine T.iload dX8_plan_55 rfl ?_
    refine T.sipush dX8_plan_57 ?_
    refine T.icmp_gt 127 dX8_plan_60 (by unfold rg; omega) (by unfold rg; omega) (fun c1 => ?_) (fun c1 => ?_)
    · refine T.ldc2 dX8_plan_127 kl_X8_271 ?_
      have hq : plF (bk M (2 + 0)) (lw M (16 + 0)) (M 1 (2 + 0) 0 1).toNat w e t (kk + 1) x S = (-4, S) := if_pos (by omega)
      rw [hq]
      exact T.lret dX8_plan_130 ⟨rfl, rfl⟩
    · refine T.aload_n dX8_plan_63 rfl ?_
      refine T.mget (v := rf E 10 0 0) dX8_plan_64 fo_X8_26 ok0 rfl rfl ?_
      refine T.iload dX8_plan_67 rfl ?_
      refine T.cV0 (As := [.int (iI x)]) (st := []) dX8_plan_69 lk_X8_255 (c_goBehind E M 0 S x (by decide) hM hS hB (by omega)) (ok10 (by decide)) rfl rfl (by decide) rfl rfl (Nat.le_of_ble_eq_true rfl) ?_
      have g1 := gbm_inv (b := 2 + 0) (q := 16 + 0) (tg := x) hM hS hB (by omega)
      refine T.aload_n dX8_plan_72 rfl ?_
      refine T.mget (v := rf E 10 0 0) dX8_plan_73 fo_X8_26 ok0 rfl rfl ?_
      refine T.iload_n dX8_plan_76 rfl ?_
      refine T.i2l dX8_plan_77 (by unfold rg; omega) ?_
      refine T.ldc2 dX8_plan_78 kl_X8_265 ?_
      refine T.lmul dX8_plan_81 ?_
      refine T.iconst dX8_plan_82 ?_
      refine T.cV0 (As := [.long (lI (w * 10000)), .int (iI (-1))]) (st := []) dX8_plan_83 lk_X8_267 (c_dist E M 0 (gbS (bk M (2 + 0)) (lw M (16 + 0)) S x) (w * 10000) (-1) (by decide) hM g1.1 (by omega) (by omega)) (ok10 (by decide)) rfl rfl (by decide) rfl rfl (Nat.le_of_ble_eq_true rfl) ?_
      have g2 := distS_inv (β := (bk M (2 + 0))) (L := (lw M (16 + 0))) (a := w * 10000) (c := -1) g1.1 (n8_of hM _)
      have g3 : CB (bk M (2 + 0)) (plT (bk M (2 + 0)) (lw M (16 + 0)) S w x) := dist_CB g1.1 (n8_of hM _) g1.2
      have g4 := owedL_bd (β := (bk M (2 + 0))) g2.1 (M 1 (2 + 0) 0 1).toNat
      refine T.aload_n dX8_plan_86 rfl ?_
      refine T.mget (v := rf E 10 0 0) dX8_plan_87 fo_X8_26 ok0 rfl rfl ?_
      refine T.cV1 (As := []) (st := []) dX8_plan_90 lk_X8_189 (c_owedNow E M 0 (plT (bk M (2 + 0)) (lw M (16 + 0)) S w x) (by decide) hM g2.1) (ok10 (by decide)) rfl rfl (by decide) rfl rfl (Nat.le_of_ble_eq_true rfl) ?_
      have g5 : 0 ≤ owedL (bk M (2 + 0)) (plT (bk M (2 + 0)) (lw M (16 + 0)) S w x) (M 1 (2 + 0) 0 1).toNat ∧ owedL (bk M (2 + 0)) (plT (bk M (2 + 0)) (lw M (16 + 0)) S w x) (M 1 (2 + 0) 0 1).toNat ≤ 4099990000 * ((M 1 (2 + 0) 0 1).toNat : Int) := g4
      refine T.lconst0 dX8_plan_93 ?_
      refine T.lcmp_ne 117 dX8_plan_94 dX8_plan_95 (by unfold rl; omega) (by unfold rl; omega) (fun c2 => ?_) (fun c2 => ?_)
      · refine T.iload dX8_plan_117 rfl ?_
        refine T.iload dX8_plan_119 rfl ?_
        refine T.iadd dX8_plan_121 ?_
        refine T.istore (ls' := [some (rf E 0 0 0), none, some (.int (iI w)), none, some (.int (iI e)), some (.int (iI t)), some (.int (iI (x + e)))]) dX8_plan_122 rfl ?_
        refine T.goto 55 dX8_plan_124 ?_
        have hq : plF (bk M (2 + 0)) (lw M (16 + 0)) (M 1 (2 + 0) 0 1).toNat w e t (kk + 1) x S = plF (bk M (2 + 0)) (lw M (16 + 0)) (M 1 (2 + 0) 0 1).toNat w e t kk (x + e) (plT (bk M (2 + 0)) (lw M (16 + 0)) S w x) := (if_neg (by omega)).trans (if_neg (by omega))
        rw [hq]
        exact ih (x + e) (plT (bk M (2 + 0)) (lw M (16 + 0)) S w x) (by omega) (by omega) g2.1 g3
      · refine T.iload dX8_plan_98 rfl ?_
        refine T.if_ne 109 dX8_plan_100 (by unfold rg; omega) (fun c3 => ?_) (fun c3 => ?_)
        · refine T.aload_n dX8_plan_109 rfl ?_
          refine T.mget (v := rf E 10 0 0) dX8_plan_110 fo_X8_26 ok0 rfl rfl ?_
          refine T.gL (z := (plT (bk M (2 + 0)) (lw M (16 + 0)) S w x) 10 13) dX8_plan_113 fo_X8_200 (ok10 (by decide)) rfl rfl (wrC_c rfl) ?_
          have hq : plF (bk M (2 + 0)) (lw M (16 + 0)) (M 1 (2 + 0) 0 1).toNat w e t (kk + 1) x S = ((plT (bk M (2 + 0)) (lw M (16 + 0)) S w x) 10 13, (plT (bk M (2 + 0)) (lw M (16 + 0)) S w x)) := by
            refine (if_neg (by omega)).trans ((if_pos (by omega)).trans ?_)
            rw [if_neg (by omega)]
          rw [hq]
          exact T.lret dX8_plan_116 ⟨rfl, rfl⟩
        · refine T.iload dX8_plan_103 rfl ?_
          refine T.i2l dX8_plan_105 (by unfold rg; omega) ?_
          refine T.goto 116 dX8_plan_106 ?_
          have hq : plF (bk M (2 + 0)) (lw M (16 + 0)) (M 1 (2 + 0) 0 1).toNat w e t (kk + 1) x S = (x, (plT (bk M (2 + 0)) (lw M (16 + 0)) S w x)) := by
            refine (if_neg (by omega)).trans ((if_pos (by omega)).trans ?_)
            rw [if_pos (by omega)]
          rw [hq]
          exact T.lret dX8_plan_116 ⟨rfl, rfl⟩
noncomputable def planR (m : Mem) (l w y e t : Int) : Int := if ¬ ((0 ≤ l ∧ l ≤ 1) ∧ ((0 ≤ y ∧ y ≤ 299) ∧ 1 ≤ w ∧ w ≤ 9999) ∧ (1 ≤ e ∧ e ≤ 60) ∧ (0 ≤ t ∧ t ≤ 1)) then -1 else (plF (bk (stM m 0 0 l.toNat) (2 + 0)) (lw (stM m 0 0 l.toNat) (16 + 0)) ((stM m 0 0 l.toNat) 1 (2 + 0) 0 1).toNat w e t 301 y (stS (bk (stM m 0 0 l.toNat) (2 + 0)) (fun k => (stM m 0 0 l.toNat) k 0 0))).1
noncomputable def planM (m : Mem) (l w y e t : Int) : Mem := if ¬ ((0 ≤ l ∧ l ≤ 1) ∧ ((0 ≤ y ∧ y ≤ 299) ∧ 1 ≤ w ∧ w ≤ 9999) ∧ (1 ≤ e ∧ e ≤ 60) ∧ (0 ≤ t ∧ t ≤ 1)) then m else wrC (stM m 0 0 l.toNat) 0 (plF (bk (stM m 0 0 l.toNat) (2 + 0)) (lw (stM m 0 0 l.toNat) (16 + 0)) ((stM m 0 0 l.toNat) 1 (2 + 0) 0 1).toNat w e t 301 y (stS (bk (stM m 0 0 l.toNat) (2 + 0)) (fun k => (stM m 0 0 l.toNat) k 0 0))).2
set_option maxHeartbeats 4000000 in
set_option maxRecDepth 100000 in
theorem c_plan (E : Ev) (m : Mem) (l w y e t : Int) (hI : Inv m) (h1 : rg l) (h2 : rg w) (h3 : rg y) (h4 : rg e) (h5 : rg t) : CT E 7 mX8_plan [rf E 0 0 0, .int (iI l), .int (iI w), .int (iI y), .int (iI e), .int (iI t)] (hp E m) (some (.long (lI (planR m l w y e t)))) (hp E (planM m l w y e t)) := by
  refine CT.go okX8_plan (Nat.le_of_ble_eq_true rfl) ?_
  show T E 7 mX8_plan 0 [some (rf E 0 0 0), some (.int (iI l)), some (.int (iI w)), some (.int (iI y)), some (.int (iI e)), some (.int (iI t)), none] [] (hp E m) _
  unfold rg at h1 h2 h3 h4 h5
  refine T.iload_n dX8_plan_0 rfl ?_
  refine T.cS1 (As := [.int (iI l)]) (st := []) dX8_plan_1 lk_X8_153 (c_isLaw E _ (by unfold rg; omega)) (by decide) rfl rfl (Nat.le_of_ble_eq_true rfl) ?_
  refine T.ifB_eq 36 dX8_plan_4 (fun c1 => ?_) (fun c1 => ?_)
  · refine T.ldc2 dX8_plan_36 kl_X8_174 ?_
    exact T.lret dX8_plan_39 ⟨congrArg (fun z => some (Value.long (lI z))) (Eq.symm (show planR m l w y e t = (-1) from by unfold planR; rw [if_pos (by omega)] <;> first | rfl | omega)), congrArg (hp E) (Eq.symm (show planM m l w y e t = m from by unfold planM; rw [if_pos (by omega)] <;> rfl))⟩
  · refine T.iload_n dX8_plan_7 rfl ?_
    refine T.iload_n dX8_plan_8 rfl ?_
    refine T.cS1 (As := [.int (iI y), .int (iI w)]) (st := []) dX8_plan_9 lk_X8_89 (c_isPayable E _ (by unfold rg; omega) (by unfold rg; omega)) (by decide) rfl rfl (Nat.le_of_ble_eq_true rfl) ?_
    refine T.ifB_eq 36 dX8_plan_12 (fun c2 => ?_) (fun c2 => ?_)
    · refine T.ldc2 dX8_plan_36 kl_X8_174 ?_
      exact T.lret dX8_plan_39 ⟨congrArg (fun z => some (Value.long (lI z))) (Eq.symm (show planR m l w y e t = (-1) from by unfold planR; rw [if_pos (by omega)] <;> first | rfl | omega)), congrArg (hp E) (Eq.symm (show planM m l w y e t = m from by unfold planM; rw [if_pos (by omega)] <;> rfl))⟩
    · refine T.iload dX8_plan_15 rfl ?_
      refine T.iconst dX8_plan_17 ?_
      refine T.bipush dX8_plan_18 ?_
      refine T.cS1 (As := [.int (iI e), .int (iI 1), .int (iI 60)]) (st := []) dX8_plan_20 lk_X8_54 (c_within E _ (by unfold rg; omega) (by unfold rg; omega) (by unfold rg; omega)) (by decide) rfl rfl (Nat.le_of_ble_eq_true rfl) ?_
      refine T.ifB_eq 36 dX8_plan_23 (fun c3 => ?_) (fun c3 => ?_)
      · refine T.ldc2 dX8_plan_36 kl_X8_174 ?_
        exact T.lret dX8_plan_39 ⟨congrArg (fun z => some (Value.long (lI z))) (Eq.symm (show planR m l w y e t = (-1) from by unfold planR; rw [if_pos (by omega)] <;> first | rfl | omega)), congrArg (hp E) (Eq.symm (show planM m l w y e t = m from by unfold planM; rw [if_pos (by omega)] <;> rfl))⟩
      · refine T.iload dX8_plan_26 rfl ?_
        refine T.iconst dX8_plan_28 ?_
        refine T.iconst dX8_plan_29 ?_
        refine T.cS1 (As := [.int (iI t), .int (iI 0), .int (iI 1)]) (st := []) dX8_plan_30 lk_X8_54 (c_within E _ (by unfold rg; omega) (by unfold rg; omega) (by unfold rg; omega)) (by decide) rfl rfl (Nat.le_of_ble_eq_true rfl) ?_
        refine T.ifB_ne 40 dX8_plan_33 (fun c4 => ?_) (fun c4 => ?_)
        · refine T.aload_n dX8_plan_40 rfl ?_
          refine T.mget (v := rf E 10 0 0) dX8_plan_41 fo_X8_26 ok0 rfl rfl ?_
          refine T.aload_n dX8_plan_44 rfl ?_
          refine T.mget (v := rf E 1 0 0) dX8_plan_45 fo_X8_10 ok0 rfl rfl ?_
          refine T.iload_n dX8_plan_48 rfl ?_
          refine T.cV0 (As := [rf E 1 0 0, .int (iI l)]) (st := []) dX8_plan_49 lk_X8_193 (by have h0 := c_start E m 0 0 l.toNat (by decide) hI (by decide) (by decide) (by omega); rw [show ((l.toNat : Nat) : Int) = l from by omega] at h0; exact h0) (ok10 (by decide)) rfl rfl (by decide) rfl rfl (Nat.le_of_ble_eq_true rfl) ?_
          refine T.iload_n dX8_plan_52 rfl ?_
          refine T.istore (ls' := [some (rf E 0 0 0), some (.int (iI l)), some (.int (iI w)), some (.int (iI y)), some (.int (iI e)), some (.int (iI t)), some (.int (iI y))]) dX8_plan_53 rfl ?_
          refine T.fgt (ls' := [some (rf E 0 0 0), none, some (.int (iI w)), none, some (.int (iI e)), some (.int (iI t)), some (.int (iI y))]) (by simp [lsw]) ?_
          rw [show planR m l w y e t = (plF (bk (stM m 0 0 l.toNat) (2 + 0)) (lw (stM m 0 0 l.toNat) (16 + 0)) ((stM m 0 0 l.toNat) 1 (2 + 0) 0 1).toNat w e t 301 y (stS (bk (stM m 0 0 l.toNat) (2 + 0)) (fun k => (stM m 0 0 l.toNat) k 0 0))).1 from by unfold planR; rw [if_neg (by omega)], show planM m l w y e t = wrC (stM m 0 0 l.toNat) 0 (plF (bk (stM m 0 0 l.toNat) (2 + 0)) (lw (stM m 0 0 l.toNat) (16 + 0)) ((stM m 0 0 l.toNat) 1 (2 + 0) 0 1).toNat w e t 301 y (stS (bk (stM m 0 0 l.toNat) (2 + 0)) (fun k => (stM m 0 0 l.toNat) k 0 0))).2 from by unfold planM; rw [if_neg (by omega)]]
          exact c_plan_lp E (stM m 0 0 l.toNat) w e t (Inv.stM hI) (by omega) (by omega) (by omega) 301 y (stS (bk (stM m 0 0 l.toNat) (2 + 0)) (fun k => (stM m 0 0 l.toNat) k 0 0)) (by omega) (by omega) (st_inv hI).1 (st_inv hI).2
        · refine T.ldc2 dX8_plan_36 kl_X8_174 ?_
          exact T.lret dX8_plan_39 ⟨congrArg (fun z => some (Value.long (lI z))) (Eq.symm (show planR m l w y e t = (-1) from by unfold planR; rw [if_pos (by omega)] <;> first | rfl | omega)), congrArg (hp E) (Eq.symm (show planM m l w y e t = m from by unfold planM; rw [if_pos (by omega)] <;> rfl))⟩
theorem c_leftOf_m (E : Ev) (m : Mem) (j d : Nat) (hj : j < 6) (hI : Inv m) (hd : d < 8) : CT E 2 mX1_leftOf [rf E 10 j 0, .int (iI (d : Int))] (hp E m) (some (.long (lI (leftS (bk m (2 + j)) (fun k => m k j 0) d)))) (hp E m) := by
  have h0 := c_leftOf E m j (fun k => m k j 0) d hj hI (hI.S kC j) hd
  rw [wrC_self] at h0
  exact h0
theorem leftS_bd {β S : PS} (h : InvS kC S) (d : Nat) : 0 ≤ leftS β S d ∧ leftS β S d ≤ 4099990000 := by
  have q1 : 0 ≤ S 11 d ∧ S 11 d ≤ 99990000 := h 11 d rfl
  have q2 : 0 ≤ S 12 d ∧ S 12 d ≤ 4000000000 := h 12 d rfl
  unfold leftS
  split <;> omega
set_option maxHeartbeats 4000000 in
set_option maxRecDepth 100000 in
theorem c_alike_lp (E : Ev) (m : Mem) (j q : Nat) (hj : j < 6) (hq : q < 6) (hI : Inv m) (N : Nat) (hn : m 1 (2 + j) 0 1 = N) : ∀ (k : Nat) (d : Nat), N - d = k → d ≤ N → (∀ x, x < d → leftS (bk m (2 + j)) (fun k => m k j 0) x = leftS (bk m (2 + q)) (fun k => m k q 0) x) → T E 3 mX1_isLeftAlike 2 [some (rf E 10 j 0), some (rf E 10 q 0), some (.int (iI (d : Int)))] [] (hp E m) (fun r' h' => r' = some (.int (iI (bZ (∀ x, x < N → leftS (bk m (2 + j)) (fun k => m k j 0) x = leftS (bk m (2 + q)) (fun k => m k q 0) x)))) ∧ h' = hp E m) := by
  have hn8 : 0 ≤ m 1 (2 + j) 0 1 ∧ m 1 (2 + j) 0 1 ≤ 8 := hI 1 (2 + j) 0 1
  intro k
  induction k using Nat.strongRecOn with
  | ind k ih =>
    intro d hk hdn ha
    refine T.iload_n dX1_isLeftAlike_2 rfl ?_
    refine T.aload_n dX1_isLeftAlike_3 rfl ?_
    refine T.mget (v := rf E 1 (2 + j) 0) dX1_isLeftAlike_4 fo_X1_12 (ok10 (by omega)) rfl rfl ?_
    refine T.gI (z := m 1 (2 + j) 0 1) dX1_isLeftAlike_7 fo_X1_77 (ok1 (by omega)) rfl rfl rfl ?_
    have q1 : 0 ≤ m 1 (2 + j) 0 1 ∧ m 1 (2 + j) 0 1 ≤ 8 := hI 1 (2 + j) 0 1
    refine T.icmp_ge 35 dX1_isLeftAlike_10 (by unfold rg; omega) (by unfold rg; omega) (fun c2 => ?_) (fun c2 => ?_)
    · refine T.iconst dX1_isLeftAlike_35 ?_
      exact T.zret dX1_isLeftAlike_36 (narZ (Or.inr rfl)) ⟨by rw [bZ_t (fun x hx => ha x (by omega))], rfl⟩
    · refine T.aload_n dX1_isLeftAlike_13 rfl ?_
      refine T.iload_n dX1_isLeftAlike_14 rfl ?_
      refine T.cV1 (As := [.int (iI (d : Int))]) (st := []) dX1_isLeftAlike_15 lk_X1_153 (c_leftOf_m E m j d hj hI (by omega)) (ok10 (by omega)) rfl rfl (by decide) rfl rfl (Nat.le_of_ble_eq_true rfl) ?_
      have z3 := leftS_bd (β := bk m (2 + j)) (hI.S kC j) d
      refine T.aload_n dX1_isLeftAlike_18 rfl ?_
      refine T.iload_n dX1_isLeftAlike_19 rfl ?_
      refine T.cV1 (As := [.int (iI (d : Int))]) (st := [.long (lI (leftS (bk m (2 + j)) (fun k => m k j 0) d))]) dX1_isLeftAlike_20 lk_X1_153 (c_leftOf_m E m q d hq hI (by omega)) (ok10 (by omega)) rfl rfl (by decide) rfl rfl (Nat.le_of_ble_eq_true rfl) ?_
      have z4 := leftS_bd (β := bk m (2 + q)) (hI.S kC q) d
      refine T.lcmp_eq 29 dX1_isLeftAlike_23 dX1_isLeftAlike_24 (by unfold rl; omega) (by unfold rl; omega) (fun c5 => ?_) (fun c5 => ?_)
      · refine T.iinc (ls' := [some (rf E 10 j 0), some (rf E 10 q 0), some (.int (iI ((d : Int) + 1)))]) dX1_isLeftAlike_29 rfl rfl ?_
        refine T.goto 2 dX1_isLeftAlike_32 ?_
        exact ih (N - (d + 1)) (by omega) (d + 1) rfl (by omega) (fun x hx => by by_cases hxd : x = d; (subst hxd; omega); exact ha x (by omega))
      · refine T.iconst dX1_isLeftAlike_27 ?_
        exact T.zret dX1_isLeftAlike_28 (narZ (Or.inl rfl)) ⟨by rw [bZ_f (fun z => absurd (z d (by omega)) (by omega))], rfl⟩
set_option maxHeartbeats 4000000 in
set_option maxRecDepth 100000 in
theorem c_alike (E : Ev) (m : Mem) (j q : Nat) (hj : j < 6) (hq : q < 6) (hI : Inv m) : CT E 3 mX1_isLeftAlike [rf E 10 j 0, rf E 10 q 0] (hp E m) (some (.int (iI (bZ (∀ x, x < (m 1 (2 + j) 0 1).toNat → leftS (bk m (2 + j)) (fun k => m k j 0) x = leftS (bk m (2 + q)) (fun k => m k q 0) x))))) (hp E m) := by
  refine CT.go okX1_isLeftAlike (Nat.le_of_ble_eq_true rfl) ?_
  show T E 3 mX1_isLeftAlike 0 [some (rf E 10 j 0), some (rf E 10 q 0), none] [] (hp E m) _
  have hn8 : 0 ≤ m 1 (2 + j) 0 1 ∧ m 1 (2 + j) 0 1 ≤ 8 := hI 1 (2 + j) 0 1
  refine T.iconst dX1_isLeftAlike_0 ?_
  refine T.istore_n (ls' := [some (rf E 10 j 0), some (rf E 10 q 0), some (.int (iI 0))]) dX1_isLeftAlike_1 rfl ?_
  exact c_alike_lp E m j q hj hq hI _ (Int.toNat_of_nonneg hn8.1).symm _ 0 rfl (Nat.zero_le _) (fun x hx => by omega)
noncomputable def gbMem (m : Mem) (j : Nat) (y : Int) : Mem := wrC m j (gbS (bk m (2 + j)) (lw m (16 + j)) (fun k => m k j 0) y)
def CBm (m : Mem) (j : Nat) : Prop := CB (bk m (2 + j)) (fun k => m k j 0)
theorem c_goB (E : Ev) (m : Mem) (j : Nat) (y : Int) (hj : j < 6) (hI : Inv m) (hB : CBm m j) (hy : -1 ≤ y ∧ y ≤ 299) : CT E 6 mX1_goBehind [rf E 10 j 0, .int (iI y)] (hp E m) none (hp E (gbMem m j y)) := by
  have h0 := c_goBehind E m j (fun k => m k j 0) y hj hI (hI.S kC j) hB hy
  rw [wrC_self] at h0
  exact h0
theorem gbMem_inv {m : Mem} {j : Nat} {y : Int} (hI : Inv m) (hB : CBm m j) (hy : y ≤ 299) : Inv (gbMem m j y) ∧ CBm (gbMem m j y) j := by
  obtain ⟨i1, i2⟩ := gbm_inv (b := 2 + j) (q := 16 + j) (tg := y) hI (hI.S kC j) hB hy
  refine ⟨hI.wrC i1, fun d hd => ?_⟩
  have := i2 d hd
  show wrC m j _ 11 j 0 d + wrC m j _ 12 j 0 d ≤ bnd (wrC m j _ 10 j 0 2).toNat
  rw [wrC_c rfl, wrC_c rfl, wrC_c rfl]
  exact this
theorem gbMem_CB {m : Mem} {j q : Nat} {y : Int} (hne : q ≠ j) (hB : CBm m q) : CBm (gbMem m j y) q := by
  intro d hd
  have := hB d hd
  show wrC m j _ 11 q 0 d + wrC m j _ 12 q 0 d ≤ bnd (wrC m j _ 10 q 0 2).toNat
  rw [wrC_j hne, wrC_j hne, wrC_j hne]
  exact this
noncomputable def ptS (m : Mem) (y : Int) : Mem := gbMem (gbMem m 0 y) 1 y
def alkP (m : Mem) : Prop := ∀ x, x < (m 1 (2 + 0) 0 1).toNat → leftS (bk m (2 + 0)) (fun k => m k 0 0) x = leftS (bk m (2 + 1)) (fun k => m k 1 0) x
noncomputable def ptL : Nat → Int → Mem → Int × Mem
  | 0, _, m => (-4, m)
  | k + 1, y, m => @ite _ (alkP (ptS m y)) (Classical.propDecidable _) (ptL k (y + 1) (ptS m y)) (y, ptS m y)
set_option maxHeartbeats 4000000 in
set_option maxRecDepth 100000 in
theorem c_parts_lp (E : Ev) : ∀ (k : Nat) (y : Int) (m : Mem), 300 - y = k → (0 ≤ y ∧ y ≤ 300) → Inv m → CBm m 0 → CBm m 1 → T E 7 mX8_parts 26 [some (rf E 0 0 0), some (.int (iI y))] [] (hp E m) (fun r' h' => r' = some (.int (iI (ptL k y m).1)) ∧ h' = hp E (ptL k y m).2) := by
  intro k
  induction k using Nat.strongRecOn with
  | ind k ih =>
    intro y m hk hy hI hB0 hB1
    refine T.iload_n dX8_parts_26 rfl ?_
    refine T.sipush dX8_parts_27 ?_
    refine T.icmp_gt 71 dX8_parts_30 (by unfold rg; omega) (by unfold rg; omega) (fun c1 => ?_) (fun c1 => ?_)
    · refine T.bipush dX8_parts_71 ?_
      obtain rfl : k = 0 := by omega
      exact T.iret dX8_parts_73 ⟨rfl, rfl⟩
    · obtain ⟨kk, hk2⟩ : ∃ kk, k = kk + 1 := ⟨k - 1, by omega⟩
      refine T.aload_n dX8_parts_33 rfl ?_
      refine T.mget (v := rf E 10 0 0) dX8_parts_34 fo_X8_26 ok0 rfl rfl ?_
      refine T.iload_n dX8_parts_37 rfl ?_
      refine T.cV0 (As := [.int (iI y)]) (st := []) dX8_parts_38 lk_X8_255 (c_goB E m 0 y (by decide) hI hB0 (by omega)) (ok10 (by decide)) rfl rfl (by decide) rfl rfl (Nat.le_of_ble_eq_true rfl) ?_
      have g1 := gbMem_inv (y := y) hI hB0 (by omega)
      have g2 := gbMem_CB (y := y) (j := 0) (q := 1) (by decide) hB1
      refine T.aload_n dX8_parts_41 rfl ?_
      refine T.mget (v := rf E 10 1 0) dX8_parts_42 fo_X8_30 ok0 rfl rfl ?_
      refine T.iload_n dX8_parts_45 rfl ?_
      refine T.cV0 (As := [.int (iI y)]) (st := []) dX8_parts_46 lk_X8_255 (c_goB E (gbMem m 0 y) 1 y (by decide) g1.1 g2 (by omega)) (ok10 (by decide)) rfl rfl (by decide) rfl rfl (Nat.le_of_ble_eq_true rfl) ?_
      have g3 := gbMem_inv (y := y) g1.1 g2 (by omega)
      have g4 := gbMem_CB (y := y) (j := 1) (q := 0) (by decide) g1.2
      refine T.aload_n dX8_parts_49 rfl ?_
      refine T.mget (v := rf E 10 0 0) dX8_parts_50 fo_X8_26 ok0 rfl rfl ?_
      refine T.aload_n dX8_parts_53 rfl ?_
      refine T.mget (v := rf E 10 1 0) dX8_parts_54 fo_X8_30 ok0 rfl rfl ?_
      refine T.cV1 (As := [rf E 10 1 0]) (st := []) dX8_parts_57 lk_X8_273 (c_alike E (ptS m y) 0 1 (by decide) (by decide) g3.1) (ok10 (by decide)) rfl rfl (by decide) rfl rfl (Nat.le_of_ble_eq_true rfl) ?_
      refine T.ifB_ne 65 dX8_parts_60 (fun c2 => ?_) (fun c2 => ?_)
      · refine T.iinc (ls' := [some (rf E 0 0 0), some (.int (iI (y + 1)))]) dX8_parts_65 rfl rfl ?_
        refine T.goto 26 dX8_parts_68 ?_
        have hq : ptL k y m = ptL kk (y + 1) (ptS m y) := by
          rw [hk2]
          exact if_pos (by assumption)
        rw [hq]
        exact ih kk (by omega) (y + 1) (ptS m y) (by omega) (by omega) g3.1 g4 g3.2
      · refine T.iload_n dX8_parts_63 rfl ?_
        have hq : ptL k y m = (y, ptS m y) := by
          rw [hk2]
          exact if_neg (by assumption)
        rw [hq]
        exact T.iret dX8_parts_64 ⟨rfl, rfl⟩
def ptX (m : Mem) : Mem := (wrC (stM m 0 0 0) 0 (stS (bk (stM m 0 0 0) (2 + 0)) (fun k => (stM m 0 0 0) k 0 0)))
def ptY (m : Mem) : Mem := wrC (stM (ptX m) 1 0 1) 1 (stS (bk (stM (ptX m) 1 0 1) (2 + 1)) (fun k => (stM (ptX m) 1 0 1) k 1 0))
noncomputable def partsR (m : Mem) : Int := (ptL 300 0 (ptY m)).1
noncomputable def partsM (m : Mem) : Mem := (ptL 300 0 (ptY m)).2
theorem ptX_inv {m : Mem} (hI : Inv m) : Inv (ptX m) := (Inv.stM hI).wrC (st_inv hI).1
theorem ptY_inv {m : Mem} (hI : Inv m) : Inv (ptY m) ∧ CBm (ptY m) 0 ∧ CBm (ptY m) 1 := by
  have h1 := ptX_inv hI
  refine ⟨(Inv.stM h1).wrC (st_inv h1).1, fun d hd => ?_, fun d hd => ?_⟩
  · have hc : ∀ (k i : Nat), (k = 1 ∨ k = 5 ∨ 9 < k) → stM (ptX m) 1 0 1 k (2 + 0) i = ptX m k (2 + 0) i ∧ stM (ptX m) 1 0 1 k 0 i = ptX m k 0 i := by
      intro k i hk
      constructor <;> (unfold stM; rw [cpLaw_o (by omega), cpBk_o (by omega) (by omega)])
    have e : ∀ k, kC k = true → (ptY m) k 0 0 = (stS (bk (stM m 0 0 0) (2 + 0)) (fun k => (stM m 0 0 0) k 0 0)) k := by
      intro k hk
      have hk9 : 9 < k := by unfold kC at hk; simp at hk; omega
      unfold ptY
      rw [wrC_j (by decide), (hc k 0 (by omega)).2]
      unfold ptX
      exact wrC_cf hk
    have hB := (st_inv (m := m) (j := 0) (b0 := 0) (ln := 0) hI).2 d (by
      have : (bk (ptY m) (2 + 0)) 12 0 = (bk (stM m 0 0 0) (2 + 0)) 12 0 := by
        show (ptY m) 1 (2 + 0) 0 1 = _
        unfold ptY
        rw [wrC_d rfl, (hc 1 0 (by omega)).1]
        rfl
      rw [← this]; exact hd)
    show (ptY m) 11 0 0 d + (ptY m) 12 0 0 d ≤ bnd ((ptY m) 10 0 0 2).toNat
    rw [e 11 rfl, e 12 rfl, e 10 rfl]
    exact hB
  · have hB := (st_inv (m := ptX m) (j := 1) (b0 := 0) (ln := 1) h1).2 d hd
    show (ptY m) 11 1 0 d + (ptY m) 12 1 0 d ≤ bnd ((ptY m) 10 1 0 2).toNat
    unfold ptY
    rw [wrC_c rfl, wrC_c rfl, wrC_c rfl]
    exact hB
set_option maxHeartbeats 4000000 in
set_option maxRecDepth 100000 in
theorem c_parts (E : Ev) (m : Mem) (hI : Inv m) : CT E 7 mX8_parts [rf E 0 0 0] (hp E m) (some (.int (iI (partsR m)))) (hp E (partsM m)) := by
  refine CT.go okX8_parts (Nat.le_of_ble_eq_true rfl) ?_
  show T E 7 mX8_parts 0 [some (rf E 0 0 0), none] [] (hp E m) _
  refine T.aload_n dX8_parts_0 rfl ?_
  refine T.mget (v := rf E 10 0 0) dX8_parts_1 fo_X8_26 ok0 rfl rfl ?_
  refine T.aload_n dX8_parts_4 rfl ?_
  refine T.mget (v := rf E 1 0 0) dX8_parts_5 fo_X8_10 ok0 rfl rfl ?_
  refine T.iconst dX8_parts_8 ?_
  refine T.cV0 (As := [rf E 1 0 0, .int (iI 0)]) (st := []) dX8_parts_9 lk_X8_193 (c_start E m 0 0 0 (by decide) hI (by decide) (by decide) (by decide)) (ok10 (by decide)) rfl rfl (by decide) rfl rfl (Nat.le_of_ble_eq_true rfl) ?_
  refine T.aload_n dX8_parts_12 rfl ?_
  refine T.mget (v := rf E 10 1 0) dX8_parts_13 fo_X8_30 ok0 rfl rfl ?_
  refine T.aload_n dX8_parts_16 rfl ?_
  refine T.mget (v := rf E 1 0 0) dX8_parts_17 fo_X8_10 ok0 rfl rfl ?_
  refine T.iconst dX8_parts_20 ?_
  refine T.cV0 (As := [rf E 1 0 0, .int (iI 1)]) (st := []) dX8_parts_21 lk_X8_193 (c_start E (ptX m) 1 0 1 (by decide) (ptX_inv hI) (by decide) (by decide) (by decide)) (ok10 (by decide)) rfl rfl (by decide) rfl rfl (Nat.le_of_ble_eq_true rfl) ?_
  refine T.iconst dX8_parts_24 ?_
  refine T.istore_n (ls' := [some (rf E 0 0 0), some (.int (iI 0))]) dX8_parts_25 rfl ?_
  exact c_parts_lp E 300 0 (ptY m) (by omega) (by omega) (ptY_inv hI).1 (ptY_inv hI).2.1 (ptY_inv hI).2.2
