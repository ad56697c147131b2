def jdF (M : Mem) (S : PS) (s : Nat) (fr : Int) : Nat → Nat → Int
  | 0, _ => -4
  | k + 1, d => if M 28 s 0 (fr + (d : Int)).toNat = leftS (bk M (2 + 0)) S d / 10000 then jdF M S s fr k (d + 1) else d
set_option maxHeartbeats 4000000 in
set_option maxRecDepth 100000 in
theorem c_judge_lp (E : Ev) (M : Mem) (S : PS) (s : Nat) (fr : Int) (hM : Inv M) (hS : InvS kC S) (hs : s < 4) (n : Nat) (hn : M 1 0 0 1 = n) (hfr : 0 ≤ fr ∧ fr + n ≤ 24) : ∀ (k : Nat) (d : Nat), n - d = k → d ≤ n → T E 8 mX8_judge 70 [some (rf E 0 0 0), none, none, some (.int (iI (s : Int))), none, some (.int (iI fr)), none, some (.int (iI (d : Int))), none, none] [] (hp E (wrC M 0 S)) (fun r' h' => r' = some (.int (iI (jdF M S s fr (n - d) d))) ∧ h' = hp E (wrC M 0 S)) := by
  have hn8 : 0 ≤ M 1 0 0 1 ∧ M 1 0 0 1 ≤ 8 := hM 1 0 0 1
  intro k
  induction k using Nat.strongRecOn with
  | ind k ih =>
    intro d hk hdn
    refine T.iload dX8_judge_70 rfl ?_
    refine T.aload_n dX8_judge_72 rfl ?_
    refine T.mget (v := rf E 1 0 0) dX8_judge_73 fo_X8_10 ok0 rfl rfl ?_
    refine T.gI (z := M 1 0 0 1) dX8_judge_76 fo_X8_62 (ok1 (by decide)) rfl rfl rfl ?_
    have q1 : 0 ≤ M 1 0 0 1 ∧ M 1 0 0 1 ≤ 8 := hM 1 0 0 1
    refine T.icmp_ge 128 dX8_judge_79 (by unfold rg; omega) (by unfold rg; omega) (fun c2 => ?_) (fun c2 => ?_)
    · refine T.bipush dX8_judge_128 ?_
      exact T.iret dX8_judge_130 ⟨by rw [show n - d = 0 from by omega]; rfl, rfl⟩
    · refine T.aload_n dX8_judge_82 rfl ?_
      refine T.mget (v := rf E 10 0 0) dX8_judge_83 fo_X8_26 ok0 rfl rfl ?_
      refine T.iload dX8_judge_86 rfl ?_
      refine T.cV1 (As := [.int (iI (d : Int))]) (st := []) dX8_judge_88 lk_X8_186 (c_leftOf E M 0 S d (by decide) hM hS (by omega)) (ok10 (by decide)) rfl rfl (by decide) rfl rfl (Nat.le_of_ble_eq_true rfl) ?_
      have z3 := leftS_bd (β := bk M (2 + 0)) hS d
      have z4 := div_bd (x := leftS (bk M (2 + 0)) S d) (y := 10000) (by omega) (by omega)
      refine T.ldc2 dX8_judge_91 kl_X8_265 ?_
      refine T.ldiv dX8_judge_94 (by unfold rl; omega) (by unfold rl; omega) (by omega) (by omega) ?_
      refine T.lstore (ls' := [some (rf E 0 0 0), none, none, some (.int (iI (s : Int))), none, some (.int (iI fr)), none, some (.int (iI (d : Int))), some (.long (lI ((leftS (bk M (2 + 0)) S d) / 10000))), none]) dX8_judge_95 rfl ?_
      refine T.aload_n dX8_judge_97 rfl ?_
      refine T.mget (v := rf E 26 0 0) dX8_judge_98 fo_X8_49 ok0 rfl rfl ?_
      refine T.iload_n dX8_judge_101 rfl ?_
      refine T.mald (C := RX5) (x := s) dX8_judge_102 ok26 (fun _ => rfl) rfl rfl (by omega) ?_
      refine T.mget (v := rf E 28 s 0) dX8_judge_103 fo_X8_110 (ok27 (by omega)) rfl rfl ?_
      refine T.iload dX8_judge_106 rfl ?_
      refine T.iload dX8_judge_108 rfl ?_
      refine T.iadd dX8_judge_110 ?_
      refine T.aI (z := M 28 s 0 ((fr + (d : Int)).toNat)) (x := (fr + (d : Int)).toNat) dX8_judge_111 (ok28 (by omega)) (fun _ => rfl) (by omega) (by omega) rfl ?_
      have q5 : -2147483648 ≤ M 28 s 0 ((fr + (d : Int)).toNat) ∧ M 28 s 0 ((fr + (d : Int)).toNat) ≤ 2147483647 := hM 28 s 0 ((fr + (d : Int)).toNat)
      refine T.i2l dX8_judge_112 (by unfold rg; omega) ?_
      refine T.lload dX8_judge_113 rfl ?_
      refine T.lcmp_eq 122 dX8_judge_115 dX8_judge_116 (by unfold rl; omega) (by unfold rl; omega) (fun c6 => ?_) (fun c6 => ?_)
      · refine T.iinc (ls' := [some (rf E 0 0 0), none, none, some (.int (iI (s : Int))), none, some (.int (iI fr)), none, some (.int (iI ((d : Int) + 1))), some (.long (lI ((leftS (bk M (2 + 0)) S d) / 10000))), none]) dX8_judge_122 rfl rfl ?_
        refine T.goto 70 dX8_judge_125 ?_
        refine T.fgt (ls' := [some (rf E 0 0 0), none, none, some (.int (iI (s : Int))), none, some (.int (iI fr)), none, some (.int (iI ((d : Int) + 1))), none, none]) (by simp [lsw]) ?_
        have hq : jdF M S s fr (n - d) d = jdF M S s fr (n - (d + 1)) (d + 1) := by
          rw [show n - d = (n - (d + 1)) + 1 from by omega]
          exact if_pos (by omega)
        rw [hq]
        exact ih (n - (d + 1)) (by omega) (d + 1) rfl (by omega)
      · refine T.iload dX8_judge_119 rfl ?_
        have hq : jdF M S s fr (n - d) d = (d : Int) := by
          rw [show n - d = (n - (d + 1)) + 1 from by omega]
          exact if_neg (by omega)
        exact T.iret dX8_judge_121 ⟨by rw [hq], rfl⟩
noncomputable def judgeR (m : Mem) (l y s la fr : Int) : Int := if ¬ ((0 ≤ l ∧ l ≤ 1) ∧ (0 ≤ y ∧ y ≤ 299) ∧ (0 ≤ s ∧ s ≤ 3) ∧ (0 ≤ la ∧ la ≤ 2)) then -1 else if refR m s.toNat la fr (m 1 0 0 1) ≠ 0 then refR m s.toNat la fr (m 1 0 0 1) else jdF (stM m 0 0 l.toNat) (qS m l.toNat y) s.toNat fr ((stM m 0 0 l.toNat) 1 0 0 1).toNat 0
noncomputable def judgeM (m : Mem) (l y s la fr : Int) : Mem := if ¬ ((0 ≤ l ∧ l ≤ 1) ∧ (0 ≤ y ∧ y ≤ 299) ∧ (0 ≤ s ∧ s ≤ 3) ∧ (0 ≤ la ∧ la ≤ 2)) then m else if refR m s.toNat la fr (m 1 0 0 1) ≠ 0 then m else qM m l.toNat y
set_option maxHeartbeats 4000000 in
set_option maxRecDepth 100000 in
theorem c_judge (E : Ev) (m : Mem) (l y s la fr : Int) (hI : Inv m) (h1 : rg l) (h2 : rg y) (h3 : rg s) (h4 : rg la) (h5 : rg fr) : CT E 8 mX8_judge [rf E 0 0 0, .int (iI l), .int (iI y), .int (iI s), .int (iI la), .int (iI fr)] (hp E m) (some (.int (iI (judgeR m l y s la fr)))) (hp E (judgeM m l y s la fr)) := by
  refine CT.go okX8_judge (Nat.le_of_ble_eq_true rfl) ?_
  show T E 8 mX8_judge 0 [some (rf E 0 0 0), some (.int (iI l)), some (.int (iI y)), some (.int (iI s)), some (.int (iI la)), some (.int (iI fr)), none, none, none, none] [] (hp E m) _
  unfold rg at h1 h2 h3 h4 h5
  refine T.iload_n dX8_judge_0 rfl ?_
  refine T.cS1 (As := [.int (iI l)]) (st := []) dX8_judge_1 lk_X8_153 (c_isLaw E _ (by unfold rg; omega)) (by decide) rfl rfl (Nat.le_of_ble_eq_true rfl) ?_
  refine T.ifB_eq 29 dX8_judge_4 (fun c1 => ?_) (fun c1 => ?_)
  · refine T.iconst dX8_judge_29 ?_
    exact T.iret dX8_judge_30 ⟨congrArg (fun z => some (Value.int (iI z))) (Eq.symm (show judgeR m l y s la fr = (-1) from by unfold judgeR; rw [if_pos (by omega)] <;> first | rfl | omega)), congrArg (hp E) (Eq.symm (show judgeM m l y s la fr = m from by unfold judgeM; rw [if_pos (by omega)] <;> rfl))⟩
  · refine T.iload_n dX8_judge_7 rfl ?_
    refine T.cS1 (As := [.int (iI y)]) (st := []) dX8_judge_8 lk_X8_58 (c_isDay E _ (by unfold rg; omega)) (by decide) rfl rfl (Nat.le_of_ble_eq_true rfl) ?_
    refine T.ifB_eq 29 dX8_judge_11 (fun c2 => ?_) (fun c2 => ?_)
    · refine T.iconst dX8_judge_29 ?_
      exact T.iret dX8_judge_30 ⟨congrArg (fun z => some (Value.int (iI z))) (Eq.symm (show judgeR m l y s la fr = (-1) from by unfold judgeR; rw [if_pos (by omega)] <;> first | rfl | omega)), congrArg (hp E) (Eq.symm (show judgeM m l y s la fr = m from by unfold judgeM; rw [if_pos (by omega)] <;> rfl))⟩
    · refine T.iload_n dX8_judge_14 rfl ?_
      refine T.cS1 (As := [.int (iI s)]) (st := []) dX8_judge_15 lk_X8_100 (c_isSheet E _ (by unfold rg; omega)) (by decide) rfl rfl (Nat.le_of_ble_eq_true rfl) ?_
      refine T.ifB_eq 29 dX8_judge_18 (fun c3 => ?_) (fun c3 => ?_)
      · refine T.iconst dX8_judge_29 ?_
        exact T.iret dX8_judge_30 ⟨congrArg (fun z => some (Value.int (iI z))) (Eq.symm (show judgeR m l y s la fr = (-1) from by unfold judgeR; rw [if_pos (by omega)] <;> first | rfl | omega)), congrArg (hp E) (Eq.symm (show judgeM m l y s la fr = m from by unfold judgeM; rw [if_pos (by omega)] <;> rfl))⟩
      · refine T.iload dX8_judge_21 rfl ?_
        refine T.cS1 (As := [.int (iI la)]) (st := []) dX8_judge_23 lk_X8_103 (c_isLane E _ (by unfold rg; omega)) (by decide) rfl rfl (Nat.le_of_ble_eq_true rfl) ?_
        refine T.ifB_ne 31 dX8_judge_26 (fun c4 => ?_) (fun c4 => ?_)
        · refine T.aload_n dX8_judge_31 rfl ?_
          refine T.mget (v := rf E 26 0 0) dX8_judge_32 fo_X8_49 ok0 rfl rfl ?_
          refine T.iload_n dX8_judge_35 rfl ?_
          refine T.mald (C := RX5) (x := s.toNat) dX8_judge_36 ok26 (fun _ => rfl) rfl (by omega) (by omega) ?_
          refine T.iload dX8_judge_37 rfl ?_
          refine T.iload dX8_judge_39 rfl ?_
          refine T.aload_n dX8_judge_41 rfl ?_
          refine T.mget (v := rf E 1 0 0) dX8_judge_42 fo_X8_10 ok0 rfl rfl ?_
          refine T.gI (z := m 1 0 0 1) dX8_judge_45 fo_X8_62 (ok1 (by decide)) rfl rfl rfl ?_
          have q5 : 0 ≤ m 1 0 0 1 ∧ m 1 0 0 1 ≤ 8 := hI 1 0 0 1
          refine T.cV1 (As := [.int (iI la), .int (iI fr), .int (iI (m 1 0 0 1))]) (st := []) dX8_judge_48 lk_X8_106 (c_refusal E m s.toNat la fr (m 1 0 0 1) hI (by omega) (by unfold rg; omega) (by unfold rg; omega) (by omega)) (ok27 (by omega)) rfl rfl (by decide) rfl rfl (Nat.le_of_ble_eq_true rfl) ?_
          have n6 := refR_rg m s.toNat la fr (m 1 0 0 1)
          refine T.istore (ls' := [some (rf E 0 0 0), some (.int (iI l)), some (.int (iI y)), some (.int (iI s)), some (.int (iI la)), some (.int (iI fr)), some (.int (iI (refR m s.toNat la fr (m 1 0 0 1)))), none, none, none]) dX8_judge_51 rfl ?_
          refine T.iload dX8_judge_53 rfl ?_
          refine T.if_eq 61 dX8_judge_55 (by unfold rg; omega) (fun c7 => ?_) (fun c7 => ?_)
          · refine T.aload_n dX8_judge_61 rfl ?_
            refine T.iload_n dX8_judge_62 rfl ?_
            refine T.iload_n dX8_judge_63 rfl ?_
            refine T.cV0 (As := [.int (iI l), .int (iI y)]) (st := []) dX8_judge_64 lk_X8_176 (by have h0 := c_pgb E m l.toNat y hI (by omega) (by omega); rw [show ((l.toNat : Nat) : Int) = l from by omega] at h0; exact h0) ok0 rfl rfl (by decide) rfl rfl (Nat.le_of_ble_eq_true rfl) ?_
            refine T.iconst dX8_judge_67 ?_
            refine T.istore (ls' := [some (rf E 0 0 0), some (.int (iI l)), some (.int (iI y)), some (.int (iI s)), some (.int (iI la)), some (.int (iI fr)), some (.int (iI (refR m s.toNat la fr (m 1 0 0 1)))), some (.int (iI 0)), none, none]) dX8_judge_68 rfl ?_
            refine T.fgt (ls' := [some (rf E 0 0 0), none, none, some (.int (iI s)), none, some (.int (iI fr)), none, some (.int (iI 0)), none, none]) (by simp [lsw]) ?_
            have hz := refR_in (m := m) (i := s.toNat) (la := la) (fr := fr) (n := m 1 0 0 1) (by assumption)
            have z1 : 0 ≤ m 27 s.toNat 0 1 ∧ m 27 s.toNat 0 1 ≤ 24 := hI 27 s.toNat 0 1
            have z2 : (stM m 0 0 l.toNat) 1 0 0 1 = m 1 0 0 1 := congrFun (stM_core (k := 1) (j := 0) rfl) 1
            rw [show judgeR m l y s la fr = jdF (stM m 0 0 l.toNat) (qS m l.toNat y) s.toNat fr ((stM m 0 0 l.toNat) 1 0 0 1).toNat 0 from by unfold judgeR; rw [if_neg (by omega), if_neg (by omega)], show judgeM m l y s la fr = qM m l.toNat y from by unfold judgeM; rw [if_neg (by omega), if_neg (by omega)]]
            have h0 := c_judge_lp E (stM m 0 0 l.toNat) (qS m l.toNat y) s.toNat fr (Inv.stM hI) (qS_inv hI (by omega)).1 (by omega) ((stM m 0 0 l.toNat) 1 0 0 1).toNat (by omega) (by omega) _ 0 rfl (Nat.zero_le _)
            rw [show ((s.toNat : Nat) : Int) = s from by omega] at h0
            exact h0
          · refine T.iload dX8_judge_58 rfl ?_
            exact T.iret dX8_judge_60 ⟨congrArg (fun z => some (Value.int (iI z))) (Eq.symm (show judgeR m l y s la fr = refR m s.toNat la fr (m 1 0 0 1) from by unfold judgeR; rw [if_neg (by omega), if_pos (by omega)] <;> first | rfl | omega)), congrArg (hp E) (Eq.symm (show judgeM m l y s la fr = m from by unfold judgeM; rw [if_neg (by omega), if_pos (by omega)] <;> rfl))⟩
        · refine T.iconst dX8_judge_29 ?_
          exact T.iret dX8_judge_30 ⟨congrArg (fun z => some (Value.int (iI z))) (Eq.symm (show judgeR m l y s la fr = (-1) from by unfold judgeR; rw [if_pos (by omega)] <;> first | rfl | omega)), congrArg (hp E) (Eq.symm (show judgeM m l y s la fr = m from by unfold judgeM; rw [if_pos (by omega)] <;> rfl))⟩
abbrev pyI (m : Mem) (s : Nat) (fr : Int) (i : Nat) : Prop := (0 ≤ m 28 s 0 (fr + 2 * (i : Int)).toNat ∧ m 28 s 0 (fr + 2 * (i : Int)).toNat ≤ 299) ∧ 1 ≤ m 28 s 0 (fr + 2 * (i : Int) + 1).toNat ∧ m 28 s 0 (fr + 2 * (i : Int) + 1).toNat ≤ 9999
def pyOK (m : Mem) (s : Nat) (fr : Int) (n : Nat) : Prop := ∀ i, i < n → pyI m s fr i
def adL (m : Mem) (s : Nat) (fr : Int) : Nat → Mem
  | 0 => m
  | i + 1 => addM (adL m s fr i) 0 (m 28 s 0 (fr + 2 * (i : Int)).toNat) (m 28 s 0 (fr + 2 * (i : Int) + 1).toNat)
theorem adL_k {m : Mem} {s : Nat} {fr : Int} {k : Nat} (h : k ≠ 1 ∧ k ≠ 7) : ∀ n, adL m s fr n k = m k
  | 0 => rfl
  | n + 1 => by
    funext j i x
    show addM (adL m s fr n) 0 _ _ k j i x = _
    unfold addM
    rw [up_o (Or.inl h.1), up_o (Or.inl h.2), up_o (Or.inl h.2), up_o (Or.inl h.2), up_o (Or.inl h.2), adL_k h n]
theorem adL_n {m : Mem} {s : Nat} {fr : Int} : ∀ n : Nat, adL m s fr n 1 0 0 3 = m 1 0 0 3 + n
  | 0 => by simp [adL]
  | n + 1 => by
    show addM (adL m s fr n) 0 _ _ 1 0 0 3 = _
    unfold addM
    rw [up_self, adL_n n]
    omega
theorem addM_inv {m : Mem} {y w : Int} (h : Inv m) (hy : 0 ≤ y ∧ y ≤ 299) (hw : 1 ≤ w ∧ w ≤ 9999) (hn : m 1 0 0 3 < 12) : Inv (addM m 0 y w) := by
  have h0 : 0 ≤ m 1 0 0 3 ∧ m 1 0 0 3 ≤ 12 := h 1 0 0 3
  unfold addM
  exact ((((h.up (by show 0 ≤ _ ∧ _ ≤ (299 : Int); omega)).up (by show 0 ≤ _ ∧ _ ≤ (9999 : Int); omega)).up (by show -1 ≤ _ ∧ _ ≤ (7 : Int); omega)).up (by show -1 ≤ _ ∧ _ ≤ (7 : Int); omega)).up (by show 0 ≤ _ ∧ _ ≤ (12 : Int); omega)
theorem adL_inv {m : Mem} {s : Nat} {fr : Int} {n : Nat} (h : Inv m) (hp : pyOK m s fr n) (hn : m 1 0 0 3 + n ≤ 12) : ∀ i, i ≤ n → Inv (adL m s fr i)
  | 0, _ => h
  | i + 1, hi => addM_inv (adL_inv h hp hn i (by omega)) (hp i (by omega)).1 (hp i (by omega)).2 (by rw [adL_n]; omega)
set_option maxHeartbeats 4000000 in
set_option maxRecDepth 100000 in
theorem c_pays_1 (E : Ev) (m : Mem) (s : Nat) (fr : Int) (n : Nat) (R : Int) (M2 : Mem) (hI : Inv m) (hs : s < 4) (hfr : 0 ≤ fr ∧ fr + 2 * n ≤ 24) (hn12 : n ≤ 12) (hE2 : ¬ pyOK m s fr n → some (Value.int (iI (-2))) = some (Value.int (iI R)) ∧ hp E m = hp E M2) (hK : pyOK m s fr n → T E 4 mX8_pays 108 [some (rf E 0 0 0), none, none, some (.int (iI fr)), some (.int (iI (n : Int))), none, some (rf E 28 s 0), none] [] (hp E m) (fun r' h' => r' = some (.int (iI R)) ∧ h' = hp E M2)) : ∀ (k : Nat) (i : Nat), n - i = k → i ≤ n → (∀ x, x < i → pyI m s fr x) → T E 4 mX8_pays 66 [some (rf E 0 0 0), none, none, some (.int (iI fr)), some (.int (iI (n : Int))), none, some (rf E 28 s 0), some (.int (iI (i : Int)))] [] (hp E m) (fun r' h' => r' = some (.int (iI R)) ∧ h' = hp E M2) := by
  intro k
  induction k using Nat.strongRecOn with
  | ind k ih =>
    intro i hk hin hpx
    refine T.iload dX8_pays_66 rfl ?_
    refine T.iload dX8_pays_68 rfl ?_
    refine T.icmp_ge 108 dX8_pays_70 (by unfold rg; omega) (by unfold rg; omega) (fun c1 => ?_) (fun c1 => ?_)
    · refine T.fgt (ls' := [some (rf E 0 0 0), none, none, some (.int (iI fr)), some (.int (iI (n : Int))), none, some (rf E 28 s 0), none]) (by simp [lsw]) ?_
      exact hK (fun x hx => hpx x (by omega))
    · refine T.aload dX8_pays_73 rfl ?_
      refine T.iload_n dX8_pays_75 rfl ?_
      refine T.iconst dX8_pays_76 ?_
      refine T.iload dX8_pays_77 rfl ?_
      refine T.imul dX8_pays_79 ?_
      refine T.iadd dX8_pays_80 ?_
      refine T.aI (z := m 28 s 0 ((fr + 2 * (i : Int)).toNat)) (x := (fr + 2 * (i : Int)).toNat) dX8_pays_81 (ok28 (by omega)) (fun _ => rfl) (by omega) (by omega) rfl ?_
      have q2 : -2147483648 ≤ m 28 s 0 ((fr + 2 * (i : Int)).toNat) ∧ m 28 s 0 ((fr + 2 * (i : Int)).toNat) ≤ 2147483647 := hI 28 s 0 ((fr + 2 * (i : Int)).toNat)
      refine T.aload dX8_pays_82 rfl ?_
      refine T.iload_n dX8_pays_84 rfl ?_
      refine T.iconst dX8_pays_85 ?_
      refine T.iload dX8_pays_86 rfl ?_
      refine T.imul dX8_pays_88 ?_
      refine T.iadd dX8_pays_89 ?_
      refine T.iconst dX8_pays_90 ?_
      refine T.iadd dX8_pays_91 ?_
      refine T.aI (z := m 28 s 0 ((fr + 2 * (i : Int) + 1).toNat)) (x := (fr + 2 * (i : Int) + 1).toNat) dX8_pays_92 (ok28 (by omega)) (fun _ => rfl) (by omega) (by omega) rfl ?_
      have q3 : -2147483648 ≤ m 28 s 0 ((fr + 2 * (i : Int) + 1).toNat) ∧ m 28 s 0 ((fr + 2 * (i : Int) + 1).toNat) ≤ 2147483647 := hI 28 s 0 ((fr + 2 * (i : Int) + 1).toNat)
      refine T.cS1 (As := [.int (iI (m 28 s 0 ((fr + 2 * (i : Int)).toNat))), .int (iI (m 28 s 0 ((fr + 2 * (i : Int) + 1).toNat)))]) (st := []) dX8_pays_93 lk_X8_89 (c_isPayable E _ (by unfold rg; omega) (by unfold rg; omega)) (by decide) rfl rfl (Nat.le_of_ble_eq_true rfl) ?_
      refine T.ifB_ne 102 dX8_pays_96 (fun c4 => ?_) (fun c4 => ?_)
      · refine T.iinc (ls' := [some (rf E 0 0 0), none, none, some (.int (iI fr)), some (.int (iI (n : Int))), none, some (rf E 28 s 0), some (.int (iI ((i : Int) + 1)))]) dX8_pays_102 rfl rfl ?_
        refine T.goto 66 dX8_pays_105 ?_
        exact ih (n - (i + 1)) (by omega) (i + 1) rfl (by omega) (fun x hx => by by_cases hxi : x = i; (subst hxi; assumption); exact hpx x (by omega))
      · refine T.bipush dX8_pays_99 ?_
        exact T.iret dX8_pays_101 ⟨(hE2 (fun z => by have := z i (by omega); contradiction)).1, (hE2 (fun z => by have := z i (by omega); contradiction)).2⟩
set_option maxHeartbeats 4000000 in
set_option maxRecDepth 100000 in
theorem c_pays_2 (E : Ev) (m : Mem) (s : Nat) (fr : Int) (n : Nat) (hI : Inv m) (hs : s < 4) (hfr : 0 ≤ fr ∧ fr + 2 * n ≤ 24) (hpy : pyOK m s fr n) (hn12 : m 1 0 0 3 + n ≤ 12) : ∀ (k : Nat) (i : Nat) (D : Mem), n - i = k → i ≤ n → D = adL m s fr i → T E 4 mX8_pays 129 [some (rf E 0 0 0), none, none, some (.int (iI fr)), some (.int (iI (n : Int))), none, some (rf E 28 s 0), some (.int (iI (i : Int)))] [] (hp E D) (fun r' h' => r' = some (.int (iI (n : Int))) ∧ h' = hp E (adL m s fr n)) := by
  intro k
  induction k using Nat.strongRecOn with
  | ind k ih =>
    intro i D hk hin hDe
    have e28 : D 28 = m 28 := by rw [hDe, adL_k (by decide)]
    have e13 : D 1 0 0 3 = m 1 0 0 3 + i := by rw [hDe, adL_n]
    have z0 : 0 ≤ m 1 0 0 3 ∧ m 1 0 0 3 ≤ 12 := hI 1 0 0 3
    have hD : Inv D := by rw [hDe]; exact adL_inv hI hpy hn12 i hin
    refine T.iload dX8_pays_129 rfl ?_
    refine T.iload dX8_pays_131 rfl ?_
    refine T.icmp_ge 169 dX8_pays_133 (by unfold rg; omega) (by unfold rg; omega) (fun c1 => ?_) (fun c1 => ?_)
    · refine T.iload dX8_pays_169 rfl ?_
      obtain rfl : i = n := by omega
      exact T.iret dX8_pays_171 ⟨rfl, by rw [hDe]⟩
    · refine T.aload_n dX8_pays_136 rfl ?_
      refine T.mget (v := rf E 1 0 0) dX8_pays_137 fo_X8_10 ok0 rfl rfl ?_
      refine T.aload dX8_pays_140 rfl ?_
      refine T.iload_n dX8_pays_142 rfl ?_
      refine T.iconst dX8_pays_143 ?_
      refine T.iload dX8_pays_144 rfl ?_
      refine T.imul dX8_pays_146 ?_
      refine T.iadd dX8_pays_147 ?_
      refine T.aI (z := D 28 s 0 ((fr + 2 * (i : Int)).toNat)) (x := (fr + 2 * (i : Int)).toNat) dX8_pays_148 (ok28 (by omega)) (fun _ => rfl) (by omega) (by omega) rfl ?_
      refine T.aload dX8_pays_149 rfl ?_
      refine T.iload_n dX8_pays_151 rfl ?_
      refine T.iconst dX8_pays_152 ?_
      refine T.iload dX8_pays_153 rfl ?_
      refine T.imul dX8_pays_155 ?_
      refine T.iadd dX8_pays_156 ?_
      refine T.iconst dX8_pays_157 ?_
      refine T.iadd dX8_pays_158 ?_
      refine T.aI (z := D 28 s 0 ((fr + 2 * (i : Int) + 1).toNat)) (x := (fr + 2 * (i : Int) + 1).toNat) dX8_pays_159 (ok28 (by omega)) (fun _ => rfl) (by omega) (by omega) rfl ?_
      refine T.cV0 (As := [.int (iI (D 28 s 0 ((fr + 2 * (i : Int)).toNat))), .int (iI (D 28 s 0 ((fr + 2 * (i : Int) + 1).toNat)))]) (st := []) dX8_pays_160 lk_X8_96 (by rw [e28]; exact c_addPay E D 0 (m 28 s 0 (fr + 2 * (i : Int)).toNat) (m 28 s 0 (fr + 2 * (i : Int) + 1).toNat) hD (by decide) (by omega)) (ok1 (by decide)) rfl rfl (by decide) rfl rfl (Nat.le_of_ble_eq_true rfl) ?_
      refine T.iinc (ls' := [some (rf E 0 0 0), none, none, some (.int (iI fr)), some (.int (iI (n : Int))), none, some (rf E 28 s 0), some (.int (iI ((i : Int) + 1)))]) dX8_pays_163 rfl rfl ?_
      refine T.goto 129 dX8_pays_166 ?_
      exact ih (n - (i + 1)) (by omega) (i + 1) _ rfl (by omega) (by rw [hDe]; rfl)
noncomputable def paysR (m : Mem) (s la fr n : Int) : Int := if ¬ ((0 ≤ s ∧ s ≤ 3) ∧ (0 ≤ la ∧ la ≤ 2) ∧ (0 ≤ n ∧ n ≤ 12)) then -1 else if refR m s.toNat la fr (2 * n) ≠ 0 then refR m s.toNat la fr (2 * n) else @ite _ (pyOK m s.toNat fr n.toNat) (Classical.propDecidable _) (if 12 - m 1 0 0 3 < n then -3 else n) (-2)
noncomputable def paysM (m : Mem) (s la fr n : Int) : Mem := if ¬ ((0 ≤ s ∧ s ≤ 3) ∧ (0 ≤ la ∧ la ≤ 2) ∧ (0 ≤ n ∧ n ≤ 12)) then m else if refR m s.toNat la fr (2 * n) ≠ 0 then m else @ite _ (pyOK m s.toNat fr n.toNat) (Classical.propDecidable _) (if 12 - m 1 0 0 3 < n then m else adL m s.toNat fr n.toNat) m
set_option maxHeartbeats 4000000 in
set_option maxRecDepth 100000 in
theorem c_pays_108 (E : Ev) (m : Mem) (s la fr n : Int) (hI : Inv m) (hs : 0 ≤ s ∧ s ≤ 3) (hla : 0 ≤ la ∧ la ≤ 2) (hn : 0 ≤ n ∧ n ≤ 12) (hfr : 0 ≤ fr) (hfn : fr + 2 * n ≤ 24) (hrf : refR m s.toNat la fr (2 * n) = 0) (z : pyOK m s.toNat fr n.toNat) : T E 4 mX8_pays 108 [some (rf E 0 0 0), none, none, some (.int (iI fr)), some (.int (iI ((n.toNat : Nat) : Int))), none, some (rf E 28 s.toNat 0), none] [] (hp E m) (fun r' h' => r' = some (.int (iI (paysR m s la fr n))) ∧ h' = hp E (paysM m s la fr n)) := by
  refine T.iload dX8_pays_108 rfl ?_
  refine T.bipush dX8_pays_110 ?_
  refine T.aload_n dX8_pays_112 rfl ?_
  refine T.mget (v := rf E 1 0 0) dX8_pays_113 fo_X8_10 ok0 rfl rfl ?_
  refine T.gI (z := m 1 0 0 3) dX8_pays_116 fo_X8_93 (ok1 (by decide)) rfl rfl rfl ?_
  have q1 : 0 ≤ m 1 0 0 3 ∧ m 1 0 0 3 ≤ 12 := hI 1 0 0 3
  refine T.isub dX8_pays_119 ?_
  refine T.icmp_le 126 dX8_pays_120 (by unfold rg; omega) (by unfold rg; omega) (fun c2 => ?_) (fun c2 => ?_)
  · refine T.iconst dX8_pays_126 ?_
    refine T.istore (ls' := [some (rf E 0 0 0), none, none, some (.int (iI fr)), some (.int (iI ((n.toNat : Nat) : Int))), none, some (rf E 28 s.toNat 0), some (.int (iI 0))]) dX8_pays_127 rfl ?_
    unfold paysR paysM
    rw [if_neg (by omega), if_neg (by omega), if_pos z, if_neg (by omega), if_neg (by omega), if_neg (by omega), if_pos z, if_neg (by omega)]
    have h0 := c_pays_2 E m s.toNat fr n.toNat hI (by omega) (by omega) z (by omega) _ 0 m rfl (Nat.zero_le _) rfl
    rw [show ((n.toNat : Nat) : Int) = n from by omega] at h0 ⊢
    exact h0
  · refine T.bipush dX8_pays_123 ?_
    unfold paysR paysM
    rw [if_neg (by omega), if_neg (by omega), if_pos z, if_pos (by omega), if_neg (by omega), if_neg (by omega), if_pos z, if_pos (by omega)]
    exact T.iret dX8_pays_125 ⟨rfl, rfl⟩
set_option maxHeartbeats 4000000 in
set_option maxRecDepth 100000 in
theorem c_pays (E : Ev) (m : Mem) (s la fr n : Int) (hI : Inv m) (h1 : rg s) (h2 : rg la) (h3 : rg fr) (h4 : rg n) : CT E 4 mX8_pays [rf E 0 0 0, .int (iI s), .int (iI la), .int (iI fr), .int (iI n)] (hp E m) (some (.int (iI (paysR m s la fr n)))) (hp E (paysM m s la fr n)) := by
  refine CT.go okX8_pays (Nat.le_of_ble_eq_true rfl) ?_
  show T E 4 mX8_pays 0 [some (rf E 0 0 0), some (.int (iI s)), some (.int (iI la)), some (.int (iI fr)), some (.int (iI n)), none, none, none] [] (hp E m) _
  unfold rg at h1 h2 h3 h4
  refine T.iload_n dX8_pays_0 rfl ?_
  refine T.cS1 (As := [.int (iI s)]) (st := []) dX8_pays_1 lk_X8_100 (c_isSheet E _ (by unfold rg; omega)) (by decide) rfl rfl (Nat.le_of_ble_eq_true rfl) ?_
  refine T.ifB_eq 25 dX8_pays_4 (fun c1 => ?_) (fun c1 => ?_)
  · refine T.iconst dX8_pays_25 ?_
    exact T.iret dX8_pays_26 ⟨congrArg (fun z => some (Value.int (iI z))) (Eq.symm (show paysR m s la fr n = (-1) from by unfold paysR; rw [if_pos (by omega)])), congrArg (hp E) (Eq.symm (show paysM m s la fr n = m from by unfold paysM; rw [if_pos (by omega)]))⟩
  · refine T.iload_n dX8_pays_7 rfl ?_
    refine T.cS1 (As := [.int (iI la)]) (st := []) dX8_pays_8 lk_X8_103 (c_isLane E _ (by unfold rg; omega)) (by decide) rfl rfl (Nat.le_of_ble_eq_true rfl) ?_
    refine T.ifB_eq 25 dX8_pays_11 (fun c2 => ?_) (fun c2 => ?_)
    · refine T.iconst dX8_pays_25 ?_
      exact T.iret dX8_pays_26 ⟨congrArg (fun z => some (Value.int (iI z))) (Eq.symm (show paysR m s la fr n = (-1) from by unfold paysR; rw [if_pos (by omega)])), congrArg (hp E) (Eq.symm (show paysM m s la fr n = m from by unfold paysM; rw [if_pos (by omega)]))⟩
    · refine T.iload dX8_pays_14 rfl ?_
      refine T.iconst dX8_pays_16 ?_
      refine T.bipush dX8_pays_17 ?_
      refine T.cS1 (As := [.int (iI n), .int (iI 0), .int (iI 12)]) (st := []) dX8_pays_19 lk_X8_54 (c_within E _ (by unfold rg; omega) (by unfold rg; omega) (by unfold rg; omega)) (by decide) rfl rfl (Nat.le_of_ble_eq_true rfl) ?_
      refine T.ifB_ne 27 dX8_pays_22 (fun c3 => ?_) (fun c3 => ?_)
      · refine T.aload_n dX8_pays_27 rfl ?_
        refine T.mget (v := rf E 26 0 0) dX8_pays_28 fo_X8_49 ok0 rfl rfl ?_
        refine T.iload_n dX8_pays_31 rfl ?_
        refine T.mald (C := RX5) (x := s.toNat) dX8_pays_32 ok26 (fun _ => rfl) rfl (by omega) (by omega) ?_
        refine T.iload_n dX8_pays_33 rfl ?_
        refine T.iload_n dX8_pays_34 rfl ?_
        refine T.iconst dX8_pays_35 ?_
        refine T.iload dX8_pays_36 rfl ?_
        refine T.imul dX8_pays_38 ?_
        refine T.cV1 (As := [.int (iI la), .int (iI fr), .int (iI (2 * n))]) (st := []) dX8_pays_39 lk_X8_106 (c_refusal E m s.toNat la fr (2 * n) hI (by omega) (by unfold rg; omega) (by unfold rg; omega) (by omega)) (ok27 (by omega)) rfl rfl (by decide) rfl rfl (Nat.le_of_ble_eq_true rfl) ?_
        have n4 := refR_rg m s.toNat la fr (2 * n)
        refine T.istore (ls' := [some (rf E 0 0 0), some (.int (iI s)), some (.int (iI la)), some (.int (iI fr)), some (.int (iI n)), some (.int (iI (refR m s.toNat la fr (2 * n)))), none, none]) dX8_pays_42 rfl ?_
        refine T.iload dX8_pays_44 rfl ?_
        refine T.if_eq 52 dX8_pays_46 (by unfold rg; omega) (fun c5 => ?_) (fun c5 => ?_)
        · refine T.aload_n dX8_pays_52 rfl ?_
          refine T.mget (v := rf E 26 0 0) dX8_pays_53 fo_X8_49 ok0 rfl rfl ?_
          refine T.iload_n dX8_pays_56 rfl ?_
          refine T.mald (C := RX5) (x := s.toNat) dX8_pays_57 ok26 (fun _ => rfl) rfl (by omega) (by omega) ?_
          refine T.mget (v := rf E 28 s.toNat 0) dX8_pays_58 fo_X8_110 (ok27 (by omega)) rfl rfl ?_
          refine T.astore (ls' := [some (rf E 0 0 0), some (.int (iI s)), some (.int (iI la)), some (.int (iI fr)), some (.int (iI n)), some (.int (iI (refR m s.toNat la fr (2 * n)))), some (rf E 28 s.toNat 0), none]) dX8_pays_61 rfl ?_
          refine T.iconst dX8_pays_63 ?_
          refine T.istore (ls' := [some (rf E 0 0 0), some (.int (iI s)), some (.int (iI la)), some (.int (iI fr)), some (.int (iI n)), some (.int (iI (refR m s.toNat la fr (2 * n)))), some (rf E 28 s.toNat 0), some (.int (iI 0))]) dX8_pays_64 rfl ?_
          refine T.fgt (ls' := [some (rf E 0 0 0), none, none, some (.int (iI fr)), some (.int (iI n)), none, some (rf E 28 s.toNat 0), some (.int (iI 0))]) (by simp [lsw]) ?_
          have hz := refR_in (m := m) (i := s.toNat) (la := la) (fr := fr) (n := 2 * n) (by assumption)
          have z1 : 0 ≤ m 27 s.toNat 0 1 ∧ m 27 s.toNat 0 1 ≤ 24 := hI 27 s.toNat 0 1
          have h0 := c_pays_1 E m s.toNat fr n.toNat (paysR m s la fr n) (paysM m s la fr n) hI (by omega) (by omega) (by omega) (fun z => ?_) (fun z => ?_) _ 0 rfl (Nat.zero_le _) (fun x hx => by omega)
          · rw [show ((n.toNat : Nat) : Int) = n from by omega] at h0
            exact h0
          · unfold paysR paysM
            rw [if_neg (by omega), if_neg (by omega), if_neg z, if_neg (by omega), if_neg (by omega), if_neg z]
            exact ⟨rfl, rfl⟩
          · exact c_pays_108 E m s la fr n hI (by omega) (by omega) (by omega) (by omega) (by omega) (by assumption) z
        · refine T.iload dX8_pays_49 rfl ?_
          exact T.iret dX8_pays_51 ⟨congrArg (fun z => some (Value.int (iI z))) (Eq.symm (show paysR m s la fr n = refR m s.toNat la fr (2 * n) from by unfold paysR; rw [if_neg (by omega), if_pos (by omega)])), congrArg (hp E) (Eq.symm (show paysM m s la fr n = m from by unfold paysM; rw [if_neg (by omega), if_pos (by omega)]))⟩
      · refine T.iconst dX8_pays_25 ?_
        exact T.iret dX8_pays_26 ⟨congrArg (fun z => some (Value.int (iI z))) (Eq.symm (show paysR m s la fr n = (-1) from by unfold paysR; rw [if_pos (by omega)])), congrArg (hp E) (Eq.symm (show paysM m s la fr n = m from by unfold paysM; rw [if_pos (by omega)]))⟩
