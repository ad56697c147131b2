noncomputable def st1 (D : Mem) (j ln : Nat) : Mem := wrC (stM D j 0 ln) j (stS (bk (stM D j 0 ln) (2 + j)) (cs (stM D j 0 ln) j))
noncomputable def fiL (D : Mem) (ln : Nat) : Nat → Mem
  | 0 => D
  | i + 1 => st1 (fiL D ln i) (2 + i) ln
def fi0 (m : Mem) (n y : Int) : Mem := up (up (up m 20 0 0 5 n) 20 0 0 6 y) 20 0 0 2 0
def fi1 (m : Mem) (n y : Int) : Mem := updS (fi0 m n y) 22 0 0 (fil0 (fi0 m n y 22 0 0) 3 (-1))
noncomputable def fiM (m : Mem) (ln : Nat) (n y : Int) : Mem := fiL (fi1 m n y) ln 4
noncomputable def findM (m : Mem) (ln : Nat) (n y : Int) : Mem := tfM 3 (fiM m ln n y)
theorem fi1_inv {m : Mem} {n y : Int} (h : Inv m) (hn : 0 ≤ n ∧ n ≤ 3) (hy : 0 ≤ y ∧ y ≤ 299) : Inv (fi1 m n y) := by
  have h1 : Inv (fi0 m n y) := ((h.up (by show 0 ≤ _ ∧ _ ≤ (3 : Int); omega)).up (by show 0 ≤ _ ∧ _ ≤ (299 : Int); omega)).up (by show 0 ≤ _ ∧ _ ≤ (1 : Int); omega)
  intro k j i x
  unfold fi1 updS
  split
  · rename_i e
    obtain ⟨rfl, rfl, rfl⟩ := e
    show -1 ≤ fil0 _ _ _ x ∧ fil0 _ _ _ x ≤ (7 : Int)
    unfold fil0
    split
    · omega
    · exact h1 22 0 0 x
  · exact h1 k j i x
theorem cpBk_n {m : Mem} {b b0 : Nat} : cpBk m b b0 1 b 0 1 = m 1 b0 0 1 := by
  unfold cpBk
  rw [cpLaw_o (Or.inl (by decide)), cpLaw_o (Or.inl (by decide))]
  unfold cpB2
  rw [cpPs_k (by decide)]
  have h1 : up (cpB1 m b b0) 1 b 0 3 ((cpB1 m b b0) 1 b0 0 3) 1 b 0 1 = cpB1 m b b0 1 b 0 1 := by simp [up]
  rw [h1]
  unfold cpB1
  rw [cpDs_k (by decide), up_self]
theorem stM_n {m : Mem} {j b0 ln : Nat} : stM m j b0 ln 1 (2 + j) 0 1 = m 1 b0 0 1 := by
  unfold stM
  rw [cpLaw_o (Or.inl (by decide)), cpBk_n]
theorem stM_k {m : Mem} {j b0 ln k : Nat} (h : 9 < k) : stM m j b0 ln k = m k := by
  funext j' i
  unfold stM
  rw [cpLaw_o (Or.inl (by omega)), cpBk_o (Or.inl (by omega)) (Or.inl (by omega))]
theorem stM_b {m : Mem} {j b0 ln b i : Nat} (h : b ≠ 2 + j) : stM m j b0 ln 1 b i = m 1 b i := by
  unfold stM
  rw [cpLaw_o (Or.inl (by decide)), cpBk_o (Or.inr h) (Or.inl (by decide))]
theorem st1_inv {D : Mem} {j ln : Nat} (h : Inv D) : Inv (st1 D j ln) := (Inv.stM h).wrC (st_inv h).1
theorem st1_1 {D : Mem} {j ln : Nat} : st1 D j ln 1 = stM D j 0 ln 1 := by
  funext b i
  unfold st1
  rw [wrC_d rfl]
theorem st1_c {D : Mem} {j ln j' k : Nat} (hk : kC k = true) (h : j' ≠ j) : st1 D j ln k j' 0 = D k j' 0 := by
  have : 10 ≤ k ∧ k ≤ 19 := by unfold kC at hk; simpa using hk
  unfold st1
  rw [wrC_j h, stM_k (by omega)]
theorem st1_k {D : Mem} {j ln k : Nat} (h : 19 < k) : st1 D j ln k = D k := by
  funext j' i
  unfold st1
  rw [wrC_d (by unfold kC; simp; omega), stM_k (by omega)]
theorem st1_cb {D : Mem} {j ln : Nat} (h : Inv D) : CB (bk (st1 D j ln) (2 + j)) (cs (st1 D j ln) j) := by
  have h1 := (st_inv (j := j) (b0 := 0) (ln := ln) h).2
  intro d hd
  have h2 := h1 d (by show d < (stM D j 0 ln 1 (2 + j) 0 1).toNat; rw [← st1_1]; exact hd)
  show wrC _ _ _ 11 j 0 d + wrC _ _ _ 12 j 0 d ≤ bnd (wrC _ _ _ 10 j 0 2).toNat
  rw [wrC_c rfl, wrC_c rfl, wrC_c rfl]
  exact h2
theorem fiL_ok {D : Mem} {ln : Nat} (h : Inv D) : ∀ i, i ≤ 4 → Inv (fiL D ln i) ∧ (∀ x, x < i → fiL D ln i 1 (4 + x) 0 1 = D 1 0 0 1) ∧ (0 < i → CB (bk (fiL D ln i) (2 + 2)) (cs (fiL D ln i) 2)) ∧ fiL D ln i 1 0 0 1 = D 1 0 0 1 ∧ ∀ k, 19 < k → fiL D ln i k = D k
  | 0, _ => ⟨h, fun x hx => by omega, fun z => by omega, rfl, fun _ _ => rfl⟩
  | i + 1, hi => by
    obtain ⟨i1, i2, i3, i4, i5⟩ := fiL_ok (ln := ln) h i (by omega)
    refine ⟨st1_inv i1, fun x hx => ?_, fun _ => ?_, ?_, fun k hk => ?_⟩
    · show st1 (fiL D ln i) (2 + i) ln 1 (4 + x) 0 1 = _
      rw [st1_1]
      by_cases e : x = i
      · subst e
        rw [show 4 + x = 2 + (2 + x) by omega, stM_n, i4]
      · rw [stM_b (by omega)]
        exact i2 x (by omega)
    · by_cases e : i = 0
      · subst e
        exact st1_cb i1
      · have h3 := i3 (by omega)
        intro d hd
        have hd2 : d < (fiL D ln i 1 (2 + 2) 0 1).toNat := by
          have : d < (st1 (fiL D ln i) (2 + i) ln 1 (2 + 2) 0 1).toNat := hd
          rw [st1_1, stM_b (by omega)] at this
          exact this
        have h4 := h3 d hd2
        show st1 (fiL D ln i) (2 + i) ln 11 2 0 d + st1 (fiL D ln i) (2 + i) ln 12 2 0 d ≤ bnd (st1 (fiL D ln i) (2 + i) ln 10 2 0 2).toNat
        rw [st1_c rfl (by omega), st1_c rfl (by omega), st1_c rfl (by omega)]
        exact h4
    · show st1 (fiL D ln i) (2 + i) ln 1 0 0 1 = _
      rw [st1_1, stM_b (by omega), i4]
    · show st1 (fiL D ln i) (2 + i) ln k = _
      rw [st1_k hk, i5 k hk]
theorem fiM_tf {m : Mem} {ln : Nat} {n y : Int} (h : Inv m) (hn : 0 ≤ n ∧ n ≤ 3) (hy : 0 ≤ y ∧ y ≤ 299) : TF (fiM m ln n y) 2 := by
  obtain ⟨i1, i2, i3, i4, i5⟩ := fiL_ok (ln := ln) (fi1_inv h hn hy) 4 (Nat.le_refl _)
  refine ⟨i1, fun hz => ?_, fun b h1 h2 => ?_, i3 (by decide)⟩
  · exfalso
    apply hz
    show fiL (fi1 m n y) ln 4 20 0 0 2 = 0
    rw [i5 20 (by decide)]
    rfl
  · have e1 := i2 (b - 4) (by omega)
    have e2 := i2 0 (by decide)
    rw [show 4 + (b - 4) = b by omega] at e1
    show fiL (fi1 m n y) ln 4 1 b 0 1 = fiL (fi1 m n y) ln 4 1 4 0 1
    rw [e1]
    exact e2.symm
theorem findM_ok {m : Mem} {ln : Nat} {n y : Int} (h : Inv m) (hn : 0 ≤ n ∧ n ≤ 3) (hy : 0 ≤ y ∧ y ≤ 299) : Inv (findM m ln n y) ∧ LO (findM m ln n y) ∧ TFr 2 5 (fiM m ln n y) (findM m ln n y) := tfM_ok 3 _ (Nat.le_refl _) (fiM_tf h hn hy)
set_option maxHeartbeats 4000000 in
set_option maxRecDepth 100000 in
theorem c_find_lp (E : Ev) (M M2 : Mem) (ln : Nat) (hM : Inv M) (hln : ln < 2) (hM2 : M2 = fiL M ln 4) (htf : TF M2 2) : ∀ (k : Nat) (i : Nat) (D : Mem), 4 - i = k → i ≤ 4 → D = fiL M ln i → T E 11 mX7_find 27 [some (rf E 20 0 0), some (rf E 1 0 0), some (.int (iI (ln : Int))), none, none, some (.int (iI (i : Int)))] [] (hp E D) (fun r' h' => r' = none ∧ h' = hp E (tfM 3 M2)) := by
  intro k
  induction k using Nat.strongRecOn with
  | ind k ih =>
    intro i D hk hi hD
    have i0 := fiL_ok (ln := ln) hM i hi
    rw [← hD] at i0
    refine T.iload dX7_find_27 rfl ?_
    refine T.iconst dX7_find_29 ?_
    refine T.icmp_gt 51 dX7_find_30 (by unfold rg; omega) (by unfold rg; omega) (fun c1 => ?_) (fun c1 => ?_)
    · have hDe : D = M2 := by rw [hD, hM2, show i = 4 from by omega]
      refine T.aload_n dX7_find_51 rfl ?_
      refine T.iconst dX7_find_52 ?_
      refine T.cV0 (As := [.int (iI 0)]) (st := []) dX7_find_53 lk_X7_50 (by rw [hDe]; exact c_try E 3 (by omega) _ htf) ok20 rfl rfl (by decide) rfl rfl (Nat.le_of_ble_eq_true rfl) ?_
      exact T.vret dX7_find_56 ⟨rfl, rfl⟩
    · refine T.aload_n dX7_find_33 rfl ?_
      refine T.mget (v := rf E 23 0 0) dX7_find_34 fo_X7_28 ok20 rfl rfl ?_
      refine T.iload dX7_find_37 rfl ?_
      refine T.mald (C := RX1) (x := i) dX7_find_39 ok23 (fun _ => rfl) rfl rfl (by omega) ?_
      refine T.aload_n dX7_find_40 rfl ?_
      refine T.iload_n dX7_find_41 rfl ?_
      refine T.cV0 (As := [rf E 1 0 0, .int (iI (ln : Int))]) (st := []) dX7_find_42 lk_X7_46 (c_start E D (2 + i) 0 ln (by omega) i0.1 (by decide) (by omega) hln) (ok10 (by omega)) rfl rfl (by decide) rfl rfl (Nat.le_of_ble_eq_true rfl) ?_
      refine T.iinc (ls' := [some (rf E 20 0 0), some (rf E 1 0 0), some (.int (iI (ln : Int))), none, none, some (.int (iI ((i : Int) + 1)))]) dX7_find_45 rfl rfl ?_
      refine T.goto 27 dX7_find_48 ?_
      exact ih (4 - (i + 1)) (by omega) (i + 1) _ rfl (by omega) (by rw [hD]; rfl)
set_option maxHeartbeats 4000000 in
set_option maxRecDepth 100000 in
theorem c_find (E : Ev) (m : Mem) (ln : Nat) (n y : Int) (hI : Inv m) (hln : ln < 2) (hn : 0 ≤ n ∧ n ≤ 3) (hy : 0 ≤ y ∧ y ≤ 299) : CT E 11 mX7_find [rf E 20 0 0, rf E 1 0 0, .int (iI (ln : Int)), .int (iI n), .int (iI y)] (hp E m) (none) (hp E (findM m ln n y)) := by
  refine CT.go okX7_find (Nat.le_of_ble_eq_true rfl) ?_
  show T E 11 mX7_find 0 [some (rf E 20 0 0), some (rf E 1 0 0), some (.int (iI (ln : Int))), some (.int (iI n)), some (.int (iI y)), none] [] (hp E m) _
  refine T.aload_n dX7_find_0 rfl ?_
  refine T.iload_n dX7_find_1 rfl ?_
  refine T.mputI dX7_find_2 fp_X7_32 ok20 rfl rfl (Nat.le_of_ble_eq_true rfl) ?_
  refine T.aload_n dX7_find_5 rfl ?_
  refine T.iload dX7_find_6 rfl ?_
  refine T.mputI dX7_find_8 fp_X7_36 ok20 rfl rfl (Nat.le_of_ble_eq_true rfl) ?_
  refine T.aload_n dX7_find_11 rfl ?_
  refine T.iconst dX7_find_12 ?_
  refine T.mputZ dX7_find_13 fp_X7_19 (Or.inl rfl) ok20 rfl rfl (Nat.le_of_ble_eq_true rfl) ?_
  refine T.aload_n dX7_find_16 rfl ?_
  refine T.mget (v := rf E 22 0 0) dX7_find_17 fo_X7_23 ok20 rfl rfl ?_
  refine T.iconst dX7_find_20 ?_
  refine T.cS0 (As := [rf E 22 0 0, .int (iI (-1))]) (st := []) dX7_find_21 lk_X7_40 (c_fillI E (fi0 m n y) 22 0 0 3 (-1) ok22 (fun _ => rfl) (by decide)) (by decide) rfl rfl (Nat.le_of_ble_eq_true rfl) ?_
  refine T.iconst dX7_find_24 ?_
  refine T.istore (ls' := [some (rf E 20 0 0), some (rf E 1 0 0), some (.int (iI (ln : Int))), some (.int (iI n)), some (.int (iI y)), some (.int (iI 0))]) dX7_find_25 rfl ?_
  refine T.fgt (ls' := [some (rf E 20 0 0), some (rf E 1 0 0), some (.int (iI (ln : Int))), none, none, some (.int (iI 0))]) (by simp [lsw]) ?_
  exact c_find_lp E (fi1 m n y) (fiM m ln n y) ln (fi1_inv hI hn hy) hln rfl (fiM_tf hI hn hy) _ 0 _ rfl (by omega) rfl
noncomputable def bestR (m : Mem) (l n y i : Int) : Int := if ¬ ((0 ≤ l ∧ l ≤ 1) ∧ (1 ≤ n ∧ n ≤ 3) ∧ (0 ≤ y ∧ y ≤ 299) ∧ (0 ≤ i ∧ i ≤ n - 1)) then -101 else if m 1 0 0 3 < n then -102 else (findM m l.toNat n y) 21 0 0 i.toNat
noncomputable def bestM (m : Mem) (l n y i : Int) : Mem := if ¬ ((0 ≤ l ∧ l ≤ 1) ∧ (1 ≤ n ∧ n ≤ 3) ∧ (0 ≤ y ∧ y ≤ 299) ∧ (0 ≤ i ∧ i ≤ n - 1)) then m else if m 1 0 0 3 < n then m else (findM m l.toNat n y)
set_option maxHeartbeats 4000000 in
set_option maxRecDepth 100000 in
theorem c_best (E : Ev) (m : Mem) (l n y i : Int) (hI : Inv m) (h1 : rg l) (h2 : rg n) (h3 : rg y) (h4 : rg i) : CT E 12 mX8_best [rf E 0 0 0, .int (iI l), .int (iI n), .int (iI y), .int (iI i)] (hp E m) (some (.int (iI (bestR m l n y i)))) (hp E (bestM m l n y i)) := by
  refine CT.go okX8_best (Nat.le_of_ble_eq_true rfl) ?_
  show T E 12 mX8_best 0 [some (rf E 0 0 0), some (.int (iI l)), some (.int (iI n)), some (.int (iI y)), some (.int (iI i))] [] (hp E m) _
  unfold rg at h1 h2 h3 h4
  refine T.iload_n dX8_best_0 rfl ?_
  refine T.cS1 (As := [.int (iI l)]) (st := []) dX8_best_1 lk_X8_153 (c_isLaw E _ (by unfold rg; omega)) (by decide) rfl rfl (Nat.le_of_ble_eq_true rfl) ?_
  refine T.ifB_eq 35 dX8_best_4 (fun c1 => ?_) (fun c1 => ?_)
  · refine T.bipush dX8_best_35 ?_
    exact T.iret dX8_best_37 ⟨congrArg (fun z => some (Value.int (iI z))) (Eq.symm (show bestR m l n y i = (-101) from by unfold bestR; rw [if_pos (by omega)] <;> first | rfl | omega)), congrArg (hp E) (Eq.symm (show bestM m l n y i = m from by unfold bestM; rw [if_pos (by omega)] <;> rfl))⟩
  · refine T.iload_n dX8_best_7 rfl ?_
    refine T.iconst dX8_best_8 ?_
    refine T.iconst dX8_best_9 ?_
    refine T.cS1 (As := [.int (iI n), .int (iI 1), .int (iI 3)]) (st := []) dX8_best_10 lk_X8_54 (c_within E _ (by unfold rg; omega) (by unfold rg; omega) (by unfold rg; omega)) (by decide) rfl rfl (Nat.le_of_ble_eq_true rfl) ?_
    refine T.ifB_eq 35 dX8_best_13 (fun c2 => ?_) (fun c2 => ?_)
    · refine T.bipush dX8_best_35 ?_
      exact T.iret dX8_best_37 ⟨congrArg (fun z => some (Value.int (iI z))) (Eq.symm (show bestR m l n y i = (-101) from by unfold bestR; rw [if_pos (by omega)] <;> first | rfl | omega)), congrArg (hp E) (Eq.symm (show bestM m l n y i = m from by unfold bestM; rw [if_pos (by omega)] <;> rfl))⟩
    · refine T.iload_n dX8_best_16 rfl ?_
      refine T.cS1 (As := [.int (iI y)]) (st := []) dX8_best_17 lk_X8_58 (c_isDay E _ (by unfold rg; omega)) (by decide) rfl rfl (Nat.le_of_ble_eq_true rfl) ?_
      refine T.ifB_eq 35 dX8_best_20 (fun c3 => ?_) (fun c3 => ?_)
      · refine T.bipush dX8_best_35 ?_
        exact T.iret dX8_best_37 ⟨congrArg (fun z => some (Value.int (iI z))) (Eq.symm (show bestR m l n y i = (-101) from by unfold bestR; rw [if_pos (by omega)] <;> first | rfl | omega)), congrArg (hp E) (Eq.symm (show bestM m l n y i = m from by unfold bestM; rw [if_pos (by omega)] <;> rfl))⟩
      · refine T.iload dX8_best_23 rfl ?_
        refine T.iconst dX8_best_25 ?_
        refine T.iload_n dX8_best_26 rfl ?_
        refine T.iconst dX8_best_27 ?_
        refine T.isub dX8_best_28 ?_
        refine T.cS1 (As := [.int (iI i), .int (iI 0), .int (iI (n - 1))]) (st := []) dX8_best_29 lk_X8_54 (c_within E _ (by unfold rg; omega) (by unfold rg; omega) (by unfold rg; omega)) (by decide) rfl rfl (Nat.le_of_ble_eq_true rfl) ?_
        refine T.ifB_ne 38 dX8_best_32 (fun c4 => ?_) (fun c4 => ?_)
        · refine T.iload_n dX8_best_38 rfl ?_
          refine T.aload_n dX8_best_39 rfl ?_
          refine T.mget (v := rf E 1 0 0) dX8_best_40 fo_X8_10 ok0 rfl rfl ?_
          refine T.gI (z := m 1 0 0 3) dX8_best_43 fo_X8_93 (ok1 (by decide)) rfl rfl rfl ?_
          have q5 : 0 ≤ m 1 0 0 3 ∧ m 1 0 0 3 ≤ 12 := hI 1 0 0 3
          refine T.icmp_le 52 dX8_best_46 (by unfold rg; omega) (by unfold rg; omega) (fun c6 => ?_) (fun c6 => ?_)
          · refine T.aload_n dX8_best_52 rfl ?_
            refine T.mget (v := rf E 20 0 0) dX8_best_53 fo_X8_36 ok0 rfl rfl ?_
            refine T.aload_n dX8_best_56 rfl ?_
            refine T.mget (v := rf E 1 0 0) dX8_best_57 fo_X8_10 ok0 rfl rfl ?_
            refine T.iload_n dX8_best_60 rfl ?_
            refine T.iload_n dX8_best_61 rfl ?_
            refine T.iload_n dX8_best_62 rfl ?_
            refine T.cV0 (As := [rf E 1 0 0, .int (iI l), .int (iI n), .int (iI y)]) (st := []) dX8_best_63 lk_X8_242 (by have h0 := c_find E m l.toNat n y hI (by omega) (by omega) (by omega); rw [show ((l.toNat : Nat) : Int) = l from by omega] at h0; exact h0) ok20 rfl rfl (by decide) rfl rfl (Nat.le_of_ble_eq_true rfl) ?_
            refine T.aload_n dX8_best_66 rfl ?_
            refine T.mget (v := rf E 20 0 0) dX8_best_67 fo_X8_36 ok0 rfl rfl ?_
            refine T.mget (v := rf E 21 0 0) dX8_best_70 fo_X8_246 ok20 rfl rfl ?_
            refine T.iload dX8_best_73 rfl ?_
            refine T.aI (z := (findM m l.toNat n y) 21 0 0 i.toNat) (x := i.toNat) dX8_best_75 ok21 (fun _ => rfl) (by omega) (by omega) rfl ?_
            exact T.iret dX8_best_76 ⟨congrArg (fun z => some (Value.int (iI z))) (Eq.symm (show bestR m l n y i = (findM m l.toNat n y) 21 0 0 i.toNat from by unfold bestR; rw [if_neg (by omega), if_neg (by omega)] <;> first | rfl | omega)), congrArg (hp E) (Eq.symm (show bestM m l n y i = (findM m l.toNat n y) from by unfold bestM; rw [if_neg (by omega), if_neg (by omega)] <;> rfl))⟩
          · refine T.bipush dX8_best_49 ?_
            exact T.iret dX8_best_51 ⟨congrArg (fun z => some (Value.int (iI z))) (Eq.symm (show bestR m l n y i = (-102) from by unfold bestR; rw [if_neg (by omega), if_pos (by omega)] <;> first | rfl | omega)), congrArg (hp E) (Eq.symm (show bestM m l n y i = m from by unfold bestM; rw [if_neg (by omega), if_pos (by omega)] <;> rfl))⟩
        · refine T.bipush dX8_best_35 ?_
          exact T.iret dX8_best_37 ⟨congrArg (fun z => some (Value.int (iI z))) (Eq.symm (show bestR m l n y i = (-101) from by unfold bestR; rw [if_pos (by omega)] <;> first | rfl | omega)), congrArg (hp E) (Eq.symm (show bestM m l n y i = m from by unfold bestM; rw [if_pos (by omega)] <;> rfl))⟩
noncomputable def leastR (m : Mem) (l n y : Int) : Int := if ¬ ((0 ≤ l ∧ l ≤ 1) ∧ (1 ≤ n ∧ n ≤ 3) ∧ (0 ≤ y ∧ y ≤ 299)) then -1 else if m 1 0 0 3 < n then -2 else (findM m l.toNat n y) 20 0 0 1
noncomputable def leastM (m : Mem) (l n y : Int) : Mem := if ¬ ((0 ≤ l ∧ l ≤ 1) ∧ (1 ≤ n ∧ n ≤ 3) ∧ (0 ≤ y ∧ y ≤ 299)) then m else if m 1 0 0 3 < n then m else (findM m l.toNat n y)
set_option maxHeartbeats 4000000 in
set_option maxRecDepth 100000 in
theorem c_least (E : Ev) (m : Mem) (l n y : Int) (hI : Inv m) (h1 : rg l) (h2 : rg n) (h3 : rg y) : CT E 12 mX8_least [rf E 0 0 0, .int (iI l), .int (iI n), .int (iI y)] (hp E m) (some (.long (lI (leastR m l n y)))) (hp E (leastM m l n y)) := by
  refine CT.go okX8_least (Nat.le_of_ble_eq_true rfl) ?_
  show T E 12 mX8_least 0 [some (rf E 0 0 0), some (.int (iI l)), some (.int (iI n)), some (.int (iI y))] [] (hp E m) _
  unfold rg at h1 h2 h3
  refine T.iload_n dX8_least_0 rfl ?_
  refine T.cS1 (As := [.int (iI l)]) (st := []) dX8_least_1 lk_X8_153 (c_isLaw E _ (by unfold rg; omega)) (by decide) rfl rfl (Nat.le_of_ble_eq_true rfl) ?_
  refine T.ifB_eq 23 dX8_least_4 (fun c1 => ?_) (fun c1 => ?_)
  · refine T.ldc2 dX8_least_23 kl_X8_174 ?_
    exact T.lret dX8_least_26 ⟨congrArg (fun z => some (Value.long (lI z))) (Eq.symm (show leastR m l n y = (-1) from by unfold leastR; rw [if_pos (by omega)] <;> first | rfl | omega)), congrArg (hp E) (Eq.symm (show leastM m l n y = m from by unfold leastM; rw [if_pos (by omega)] <;> rfl))⟩
  · refine T.iload_n dX8_least_7 rfl ?_
    refine T.iconst dX8_least_8 ?_
    refine T.iconst dX8_least_9 ?_
    refine T.cS1 (As := [.int (iI n), .int (iI 1), .int (iI 3)]) (st := []) dX8_least_10 lk_X8_54 (c_within E _ (by unfold rg; omega) (by unfold rg; omega) (by unfold rg; omega)) (by decide) rfl rfl (Nat.le_of_ble_eq_true rfl) ?_
    refine T.ifB_eq 23 dX8_least_13 (fun c2 => ?_) (fun c2 => ?_)
    · refine T.ldc2 dX8_least_23 kl_X8_174 ?_
      exact T.lret dX8_least_26 ⟨congrArg (fun z => some (Value.long (lI z))) (Eq.symm (show leastR m l n y = (-1) from by unfold leastR; rw [if_pos (by omega)] <;> first | rfl | omega)), congrArg (hp E) (Eq.symm (show leastM m l n y = m from by unfold leastM; rw [if_pos (by omega)] <;> rfl))⟩
    · refine T.iload_n dX8_least_16 rfl ?_
      refine T.cS1 (As := [.int (iI y)]) (st := []) dX8_least_17 lk_X8_58 (c_isDay E _ (by unfold rg; omega)) (by decide) rfl rfl (Nat.le_of_ble_eq_true rfl) ?_
      refine T.ifB_ne 27 dX8_least_20 (fun c3 => ?_) (fun c3 => ?_)
      · refine T.iload_n dX8_least_27 rfl ?_
        refine T.aload_n dX8_least_28 rfl ?_
        refine T.mget (v := rf E 1 0 0) dX8_least_29 fo_X8_10 ok0 rfl rfl ?_
        refine T.gI (z := m 1 0 0 3) dX8_least_32 fo_X8_93 (ok1 (by decide)) rfl rfl rfl ?_
        have q4 : 0 ≤ m 1 0 0 3 ∧ m 1 0 0 3 ≤ 12 := hI 1 0 0 3
        refine T.icmp_le 42 dX8_least_35 (by unfold rg; omega) (by unfold rg; omega) (fun c5 => ?_) (fun c5 => ?_)
        · refine T.aload_n dX8_least_42 rfl ?_
          refine T.mget (v := rf E 20 0 0) dX8_least_43 fo_X8_36 ok0 rfl rfl ?_
          refine T.aload_n dX8_least_46 rfl ?_
          refine T.mget (v := rf E 1 0 0) dX8_least_47 fo_X8_10 ok0 rfl rfl ?_
          refine T.iload_n dX8_least_50 rfl ?_
          refine T.iload_n dX8_least_51 rfl ?_
          refine T.iload_n dX8_least_52 rfl ?_
          refine T.cV0 (As := [rf E 1 0 0, .int (iI l), .int (iI n), .int (iI y)]) (st := []) dX8_least_53 lk_X8_242 (by have h0 := c_find E m l.toNat n y hI (by omega) (by omega) (by omega); rw [show ((l.toNat : Nat) : Int) = l from by omega] at h0; exact h0) ok20 rfl rfl (by decide) rfl rfl (Nat.le_of_ble_eq_true rfl) ?_
          refine T.aload_n dX8_least_56 rfl ?_
          refine T.mget (v := rf E 20 0 0) dX8_least_57 fo_X8_36 ok0 rfl rfl ?_
          refine T.gL (z := (findM m l.toNat n y) 20 0 0 1) dX8_least_60 fo_X8_251 ok20 rfl rfl rfl ?_
          exact T.lret dX8_least_63 ⟨congrArg (fun z => some (Value.long (lI z))) (Eq.symm (show leastR m l n y = (findM m l.toNat n y) 20 0 0 1 from by unfold leastR; rw [if_neg (by omega), if_neg (by omega)] <;> first | rfl | omega)), congrArg (hp E) (Eq.symm (show leastM m l n y = (findM m l.toNat n y) from by unfold leastM; rw [if_neg (by omega), if_neg (by omega)] <;> rfl))⟩
        · refine T.ldc2 dX8_least_38 kl_X8_249 ?_
          exact T.lret dX8_least_41 ⟨congrArg (fun z => some (Value.long (lI z))) (Eq.symm (show leastR m l n y = (-2) from by unfold leastR; rw [if_neg (by omega), if_pos (by omega)] <;> first | rfl | omega)), congrArg (hp E) (Eq.symm (show leastM m l n y = m from by unfold leastM; rw [if_neg (by omega), if_pos (by omega)] <;> rfl))⟩
      · refine T.ldc2 dX8_least_23 kl_X8_174 ?_
        exact T.lret dX8_least_26 ⟨congrArg (fun z => some (Value.long (lI z))) (Eq.symm (show leastR m l n y = (-1) from by unfold leastR; rw [if_pos (by omega)] <;> first | rfl | omega)), congrArg (hp E) (Eq.symm (show leastM m l n y = m from by unfold leastM; rw [if_pos (by omega)] <;> rfl))⟩
