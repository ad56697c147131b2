theorem up_wrC_o {m : Mem} {j : Nat} {S : PS} {k j' i x : Nat} {v : Int} (h : kC k = false) : up (wrC m j S) k j' i x v = wrC (up m k j' i x v) j S := by
  funext k1 j1 i1 x1
  unfold up wrC
  by_cases h1 : k1 = k
  · subst h1; simp [h]
  · simp [h1]
theorem owedL_bd {β S : PS} (h : InvS kC S) : ∀ n : Nat, 0 ≤ owedL β S n ∧ owedL β S n ≤ 4099990000 * n
  | 0 => by unfold owedL; omega
  | n + 1 => by
    have h1 := owedL_bd (β := β) h n
    have q1 : 0 ≤ S 11 n ∧ S 11 n ≤ 99990000 := h 11 n rfl
    have q2 : 0 ≤ S 12 n ∧ S 12 n ≤ 4000000000 := h 12 n rfl
    unfold owedL leftS
    split <;> omega
/-- a question "what if": a payment's number of place sl is v -/
def exM (D : Mem) (ln p sl : Nat) (v : Int) : Mem := up (stM D 0 0 ln) 7 (2 + 0) p sl v
noncomputable def exS (D : Mem) (ln p sl : Nat) (v y : Int) : PS := gbS (bk (exM D ln p sl v) (2 + 0)) (lw (exM D ln p sl v) (16 + 0)) (stS (bk (stM D 0 0 ln) (2 + 0)) (fun k => stM D 0 0 ln k 0 0)) y
noncomputable def exD (D : Mem) (ln p sl : Nat) (v y : Int) : Mem := wrC (exM D ln p sl v) 0 (exS D ln p sl v y)
noncomputable def exO (D : Mem) (ln p sl : Nat) (v y : Int) : Int := owedL (bk (exM D ln p sl v) (2 + 0)) (exS D ln p sl v y) ((exM D ln p sl v) 1 (2 + 0) 0 1).toNat
theorem exM_inv {D : Mem} {ln p sl : Nat} {v : Int} (h : Inv D) (hv : inR 7 sl v) : Inv (exM D ln p sl v) := (Inv.stM h).up hv
theorem exS_inv {D : Mem} {ln p sl : Nat} {v y : Int} (h : Inv D) (hv : inR 7 sl v) (hy : y ≤ 299) : InvS kC (exS D ln p sl v y) ∧ CB (bk (exM D ln p sl v) (2 + 0)) (exS D ln p sl v y) := gbm_inv (exM_inv h hv) (st_inv h).1 (fun d hd => (st_inv h).2 d hd) hy
theorem exD_inv {D : Mem} {ln p sl : Nat} {v y : Int} (h : Inv D) (hv : inR 7 sl v) (hy : y ≤ 299) : Inv (exD D ln p sl v y) := (exM_inv h hv).wrC (exS_inv h hv hy).1
theorem exD_core {D : Mem} {ln p sl : Nat} {v y : Int} : Core D (exD D ln p sl v y) := by
  intro k j i h
  unfold exD
  rw [wrC_core h]
  unfold exM
  rw [up_o, stM_core h]
  unfold core at h
  by_cases e : k = 7
  · subst e
    have : j < 2 := by simpa using h
    omega
  · exact Or.inl e
theorem exO_bd {D : Mem} {ln p sl : Nat} {v y : Int} (h : Inv D) (hv : inR 7 sl v) (hy : y ≤ 299) : 0 ≤ exO D ln p sl v y ∧ exO D ln p sl v y ≤ 32799920000 := by
  have h1 := owedL_bd (β := bk (exM D ln p sl v) (2 + 0)) (exS_inv (ln := ln) (p := p) h hv hy).1 ((exM D ln p sl v) 1 (2 + 0) 0 1).toNat
  have h2 : 0 ≤ (exM D ln p sl v) 1 (2 + 0) 0 1 ∧ (exM D ln p sl v) 1 (2 + 0) 0 1 ≤ 8 := (exM_inv h hv) 1 (2 + 0) 0 1
  unfold exO
  omega
noncomputable def anL (ln p : Nat) (y : Int) : Nat → Int → Mem → Int → Int → Mem × Int
  | 0, _, D, _, fd => (D, fd)
  | k + 1, b, D, mo, fd => if mo < exO D ln p 3 b y then anL ln p y k (b + 1) (exD D ln p 3 b y) (exO D ln p 3 b y) b else anL ln p y k (b + 1) (exD D ln p 3 b y) mo fd
noncomputable def hgL (ln p : Nat) (y t fr : Int) : Nat → Int → Mem → Int → Mem × Int
  | 0, _, D, fd => (D, fd)
  | k + 1, v, D, fd => hgL ln p y t fr k (v + 1) (exD D ln p 0 v y) (if v = fr then exO D ln p 0 v y else if t = 0 then min fd (exO D ln p 0 v y) else max fd (exO D ln p 0 v y))
set_option maxHeartbeats 4000000 in
set_option maxRecDepth 100000 in
theorem c_ans_lp (E : Ev) (ln p : Nat) (y : Int) (hln : ln < 2) (hp12 : p < 12) (hy : 0 ≤ y ∧ y ≤ 299) (n : Nat) (hn8 : n ≤ 8) : ∀ (k : Nat) (b : Int) (D : Mem) (mo fd : Int), (n : Int) - b = k → Inv D → D 1 0 0 1 = n → (-1 ≤ b ∧ b ≤ n) → (-1 ≤ mo ∧ mo ≤ 32799920000) → (-1 ≤ fd ∧ fd ≤ 8) → T E 7 mX8_answer 36 [some (rf E 0 0 0), some (.int (iI (ln : Int))), some (.int (iI (p : Int))), some (.int (iI y)), some (.long (lI mo)), none, some (.int (iI fd)), some (.int (iI b)), none, none] [] (hp E D) (fun r' h' => r' = some (.int (iI (anL ln p y k b D mo fd).2)) ∧ h' = hp E (anL ln p y k b D mo fd).1) := by
  intro k
  induction k using Nat.strongRecOn with
  | ind k ih =>
    intro b D mo fd hk hD hn hb hmo hfd
    refine T.iload dX8_answer_36 rfl ?_
    refine T.aload_n dX8_answer_38 rfl ?_
    refine T.mget (v := rf E 1 0 0) dX8_answer_39 fo_X8_10 ok0 rfl rfl ?_
    refine T.gI (z := D 1 0 0 1) dX8_answer_42 fo_X8_62 (ok1 (by decide)) rfl rfl rfl ?_
    refine T.icmp_ge 116 dX8_answer_45 (by unfold rg; omega) (by unfold rg; omega) (fun c1 => ?_) (fun c1 => ?_)
    · refine T.iload dX8_answer_116 rfl ?_
      obtain rfl : k = 0 := by omega
      exact T.iret dX8_answer_118 ⟨rfl, rfl⟩
    · obtain ⟨kk, hk2⟩ : ∃ kk, k = kk + 1 := ⟨k - 1, by omega⟩
      have hv : inR 7 3 b := by show -1 ≤ b ∧ b ≤ (7 : Int); omega
      refine T.aload_n dX8_answer_48 rfl ?_
      refine T.mget (v := rf E 10 0 0) dX8_answer_49 fo_X8_26 ok0 rfl rfl ?_
      refine T.aload_n dX8_answer_52 rfl ?_
      refine T.mget (v := rf E 1 0 0) dX8_answer_53 fo_X8_10 ok0 rfl rfl ?_
      refine T.iload_n dX8_answer_56 rfl ?_
      refine T.cV0 (As := [rf E 1 0 0, .int (iI (ln : Int))]) (st := []) dX8_answer_57 lk_X8_193 (c_start E D 0 0 ln (by decide) hD (by decide) (by decide) hln) (ok10 (by decide)) rfl rfl (by decide) rfl rfl (Nat.le_of_ble_eq_true rfl) ?_
      refine T.aload_n dX8_answer_60 rfl ?_
      refine T.mget (v := rf E 10 0 0) dX8_answer_61 fo_X8_26 ok0 rfl rfl ?_
      refine T.mget (v := rf E 1 (2 + 0) 0) dX8_answer_64 fo_X8_254 (ok10 (by decide)) rfl rfl ?_
      refine T.mget (v := rf E 3 (2 + 0) 0) dX8_answer_67 fo_X8_119 (ok1 (by omega)) rfl rfl ?_
      refine T.iload_n dX8_answer_70 rfl ?_
      refine T.mald (C := RX4) (x := p) dX8_answer_71 (ok3 (by omega)) (fun _ => rfl) rfl rfl (by omega) ?_
      refine T.iload dX8_answer_72 rfl ?_
      refine T.mputI dX8_answer_74 fp_X8_128 (ok7 (by omega) (by omega)) rfl rfl (Nat.le_of_ble_eq_true rfl) ?_
      rw [up_wrC_o rfl]
      refine T.aload_n dX8_answer_77 rfl ?_
      refine T.mget (v := rf E 10 0 0) dX8_answer_78 fo_X8_26 ok0 rfl rfl ?_
      refine T.iload_n dX8_answer_81 rfl ?_
      refine T.cV0 (As := [.int (iI y)]) (st := []) dX8_answer_82 lk_X8_255 (c_goBehind E (exM D ln p 3 b) 0 (stS (bk (stM D 0 0 ln) (2 + 0)) (fun k => (stM D 0 0 ln) k 0 0)) y (by decide) (exM_inv hD hv) (st_inv hD).1 (fun d hd => (st_inv hD).2 d hd) (by omega)) (ok10 (by decide)) rfl rfl (by decide) rfl rfl (Nat.le_of_ble_eq_true rfl) ?_
      refine T.aload_n dX8_answer_85 rfl ?_
      refine T.mget (v := rf E 10 0 0) dX8_answer_86 fo_X8_26 ok0 rfl rfl ?_
      refine T.cV1 (As := []) (st := []) dX8_answer_89 lk_X8_189 (c_owedNow E (exM D ln p 3 b) 0 (exS D ln p 3 b y) (by decide) (exM_inv hD hv) (exS_inv hD hv (by omega)).1) (ok10 (by decide)) rfl rfl (by decide) rfl rfl (Nat.le_of_ble_eq_true rfl) ?_
      have z2 := exO_bd (ln := ln) (p := p) hD hv hy.2
      refine T.lstore (ls' := [some (rf E 0 0 0), some (.int (iI (ln : Int))), some (.int (iI (p : Int))), some (.int (iI y)), some (.long (lI mo)), none, some (.int (iI fd)), some (.int (iI b)), some (.long (lI (exO D ln p 3 b y))), none]) dX8_answer_92 rfl ?_
      refine T.lload dX8_answer_94 rfl ?_
      refine T.lload dX8_answer_96 rfl ?_
      refine T.lcmp_le 110 dX8_answer_98 dX8_answer_99 (by unfold rl; omega) (by unfold rl; omega) (fun c3 => ?_) (fun c3 => ?_)
      · refine T.iinc (ls' := [some (rf E 0 0 0), some (.int (iI (ln : Int))), some (.int (iI (p : Int))), some (.int (iI y)), some (.long (lI mo)), none, some (.int (iI fd)), some (.int (iI (b + 1))), some (.long (lI (exO D ln p 3 b y))), none]) dX8_answer_110 rfl rfl ?_
        refine T.goto 36 dX8_answer_113 ?_
        refine T.fgt (ls' := [some (rf E 0 0 0), some (.int (iI (ln : Int))), some (.int (iI (p : Int))), some (.int (iI y)), some (.long (lI mo)), none, some (.int (iI fd)), some (.int (iI (b + 1))), none, none]) (by simp [lsw]) ?_
        have hq : anL ln p y k b D mo fd = anL ln p y kk (b + 1) (exD D ln p 3 b y) mo fd := by
          rw [hk2]
          exact if_neg (by omega)
        rw [hq]
        exact ih kk (by omega) (b + 1) (exD D ln p 3 b y) (mo) (fd) (by omega) (exD_inv hD hv hy.2) (by rw [exD_core 1 0 0 rfl]; exact hn) (by omega) (by omega) (by omega)
      · refine T.lload dX8_answer_102 rfl ?_
        refine T.lstore (ls' := [some (rf E 0 0 0), some (.int (iI (ln : Int))), some (.int (iI (p : Int))), some (.int (iI y)), some (.long (lI (exO D ln p 3 b y))), none, some (.int (iI fd)), some (.int (iI b)), some (.long (lI (exO D ln p 3 b y))), none]) dX8_answer_104 rfl ?_
        refine T.iload dX8_answer_106 rfl ?_
        refine T.istore (ls' := [some (rf E 0 0 0), some (.int (iI (ln : Int))), some (.int (iI (p : Int))), some (.int (iI y)), some (.long (lI (exO D ln p 3 b y))), none, some (.int (iI b)), some (.int (iI b)), some (.long (lI (exO D ln p 3 b y))), none]) dX8_answer_108 rfl ?_
        refine T.iinc (ls' := [some (rf E 0 0 0), some (.int (iI (ln : Int))), some (.int (iI (p : Int))), some (.int (iI y)), some (.long (lI (exO D ln p 3 b y))), none, some (.int (iI b)), some (.int (iI (b + 1))), some (.long (lI (exO D ln p 3 b y))), none]) dX8_answer_110 rfl rfl ?_
        refine T.goto 36 dX8_answer_113 ?_
        refine T.fgt (ls' := [some (rf E 0 0 0), some (.int (iI (ln : Int))), some (.int (iI (p : Int))), some (.int (iI y)), some (.long (lI (exO D ln p 3 b y))), none, some (.int (iI b)), some (.int (iI (b + 1))), none, none]) (by simp [lsw]) ?_
        have hq : anL ln p y k b D mo fd = anL ln p y kk (b + 1) (exD D ln p 3 b y) (exO D ln p 3 b y) b := by
          rw [hk2]
          exact if_pos (by omega)
        rw [hq]
        exact ih kk (by omega) (b + 1) (exD D ln p 3 b y) (exO D ln p 3 b y) (b) (by omega) (exD_inv hD hv hy.2) (by rw [exD_core 1 0 0 rfl]; exact hn) (by omega) (by omega) (by omega)
noncomputable def answerR (m : Mem) (l p y : Int) : Int := if ¬ ((0 ≤ l ∧ l ≤ 1) ∧ (0 ≤ p ∧ p ≤ m 1 0 0 3 - 1) ∧ (0 ≤ y ∧ y ≤ 299)) then -101 else (anL l.toNat p.toNat y (m 1 0 0 1 + 1).toNat (-1) m (-1) (-1)).2
noncomputable def answerM (m : Mem) (l p y : Int) : Mem := if ¬ ((0 ≤ l ∧ l ≤ 1) ∧ (0 ≤ p ∧ p ≤ m 1 0 0 3 - 1) ∧ (0 ≤ y ∧ y ≤ 299)) then m else (anL l.toNat p.toNat y (m 1 0 0 1 + 1).toNat (-1) m (-1) (-1)).1
set_option maxHeartbeats 4000000 in
set_option maxRecDepth 100000 in
theorem c_answer (E : Ev) (m : Mem) (l p y : Int) (hI : Inv m) (h1 : rg l) (h2 : rg p) (h3 : rg y) : CT E 7 mX8_answer [rf E 0 0 0, .int (iI l), .int (iI p), .int (iI y)] (hp E m) (some (.int (iI (answerR m l p y)))) (hp E (answerM m l p y)) := by
  refine CT.go okX8_answer (Nat.le_of_ble_eq_true rfl) ?_
  show T E 7 mX8_answer 0 [some (rf E 0 0 0), some (.int (iI l)), some (.int (iI p)), some (.int (iI y)), none, none, none, none, none, none] [] (hp E m) _
  unfold rg at h1 h2 h3
  refine T.iload_n dX8_answer_0 rfl ?_
  refine T.cS1 (As := [.int (iI l)]) (st := []) dX8_answer_1 lk_X8_153 (c_isLaw E _ (by unfold rg; omega)) (by decide) rfl rfl (Nat.le_of_ble_eq_true rfl) ?_
  refine T.ifB_eq 22 dX8_answer_4 (fun c1 => ?_) (fun c1 => ?_)
  · refine T.bipush dX8_answer_22 ?_
    exact T.iret dX8_answer_24 ⟨congrArg (fun z => some (Value.int (iI z))) (Eq.symm (show answerR m l p y = (-101) from by unfold answerR; rw [if_pos (by omega)] <;> first | rfl | omega)), congrArg (hp E) (Eq.symm (show answerM m l p y = m from by unfold answerM; rw [if_pos (by omega)] <;> rfl))⟩
  · refine T.aload_n dX8_answer_7 rfl ?_
    refine T.iload_n dX8_answer_8 rfl ?_
    refine T.cV1 (As := [.int (iI p)]) (st := []) dX8_answer_9 lk_X8_113 (c_isPayment E m hI (by unfold rg; omega)) ok0 rfl rfl (by decide) rfl rfl (Nat.le_of_ble_eq_true rfl) ?_
    have n2 : (0 ≤ m 1 0 0 1 ∧ m 1 0 0 1 ≤ 8) ∧ 0 ≤ m 1 0 0 3 ∧ m 1 0 0 3 ≤ 12 := ⟨hI 1 0 0 1, hI 1 0 0 3⟩
    refine T.ifB_eq 22 dX8_answer_12 (fun c3 => ?_) (fun c3 => ?_)
    · refine T.bipush dX8_answer_22 ?_
      exact T.iret dX8_answer_24 ⟨congrArg (fun z => some (Value.int (iI z))) (Eq.symm (show answerR m l p y = (-101) from by unfold answerR; rw [if_pos (by omega)] <;> first | rfl | omega)), congrArg (hp E) (Eq.symm (show answerM m l p y = m from by unfold answerM; rw [if_pos (by omega)] <;> rfl))⟩
    · refine T.iload_n dX8_answer_15 rfl ?_
      refine T.cS1 (As := [.int (iI y)]) (st := []) dX8_answer_16 lk_X8_58 (c_isDay E _ (by unfold rg; omega)) (by decide) rfl rfl (Nat.le_of_ble_eq_true rfl) ?_
      refine T.ifB_ne 25 dX8_answer_19 (fun c4 => ?_) (fun c4 => ?_)
      · refine T.ldc2 dX8_answer_25 kl_X8_174 ?_
        refine T.lstore (ls' := [some (rf E 0 0 0), some (.int (iI l)), some (.int (iI p)), some (.int (iI y)), some (.long (lI (-1))), none, none, none, none, none]) dX8_answer_28 rfl ?_
        refine T.iconst dX8_answer_30 ?_
        refine T.istore (ls' := [some (rf E 0 0 0), some (.int (iI l)), some (.int (iI p)), some (.int (iI y)), some (.long (lI (-1))), none, some (.int (iI (-1))), none, none, none]) dX8_answer_31 rfl ?_
        refine T.iconst dX8_answer_33 ?_
        refine T.istore (ls' := [some (rf E 0 0 0), some (.int (iI l)), some (.int (iI p)), some (.int (iI y)), some (.long (lI (-1))), none, some (.int (iI (-1))), some (.int (iI (-1))), none, none]) dX8_answer_34 rfl ?_
        rw [show answerR m l p y = (anL l.toNat p.toNat y (m 1 0 0 1 + 1).toNat (-1) m (-1) (-1)).2 from by unfold answerR; rw [if_neg (by omega)], show answerM m l p y = (anL l.toNat p.toNat y (m 1 0 0 1 + 1).toNat (-1) m (-1) (-1)).1 from by unfold answerM; rw [if_neg (by omega)]]
        have h0 := c_ans_lp E l.toNat p.toNat y (by omega) (by omega) (by omega) (m 1 0 0 1).toNat (by omega) (m 1 0 0 1 + 1).toNat (-1) m (-1) (-1) (by omega) hI (by omega) (by omega) (by omega) (by omega)
        rw [show ((l.toNat : Nat) : Int) = l from by omega, show ((p.toNat : Nat) : Int) = p from by omega] at h0
        exact h0
      · refine T.bipush dX8_answer_22 ?_
        exact T.iret dX8_answer_24 ⟨congrArg (fun z => some (Value.int (iI z))) (Eq.symm (show answerR m l p y = (-101) from by unfold answerR; rw [if_pos (by omega)] <;> first | rfl | omega)), congrArg (hp E) (Eq.symm (show answerM m l p y = m from by unfold answerM; rw [if_pos (by omega)] <;> rfl))⟩
set_option maxHeartbeats 4000000 in
set_option maxRecDepth 100000 in
theorem c_hg_lp (E : Ev) (ln p : Nat) (y t fr la : Int) (hln : ln < 2) (hp12 : p < 12) (hy : 0 ≤ y ∧ y ≤ 299) (ht : 0 ≤ t ∧ t ≤ 1) (hfr : 0 ≤ fr ∧ fr ≤ 299) (hla : 0 ≤ la ∧ la ≤ 299) : ∀ (k : Nat) (v : Int) (D : Mem) (fd : Int), la + 1 - v = k → Inv D → (0 ≤ v ∧ v ≤ la + 1) → (0 ≤ fd ∧ fd ≤ 32799920000) → T E 7 mX8_hangs 79 [some (rf E 0 0 0), some (.int (iI (ln : Int))), some (.int (iI (p : Int))), some (.int (iI fr)), none, some (.int (iI y)), some (.int (iI t)), some (.int (iI la)), some (.long (lI fd)), none, some (.int (iI v)), none, none] [] (hp E D) (fun r' h' => r' = some (.long (lI (hgL ln p y t fr k v D fd).2)) ∧ h' = hp E (hgL ln p y t fr k v D fd).1) := by
  intro k
  induction k using Nat.strongRecOn with
  | ind k ih =>
    intro v D fd hk hD hvr hfd
    refine T.iload dX8_hangs_79 rfl ?_
    refine T.iload dX8_hangs_81 rfl ?_
    refine T.icmp_gt 176 dX8_hangs_83 (by unfold rg; omega) (by unfold rg; omega) (fun c1 => ?_) (fun c1 => ?_)
    · refine T.lload dX8_hangs_176 rfl ?_
      obtain rfl : k = 0 := by omega
      exact T.lret dX8_hangs_178 ⟨rfl, rfl⟩
    · obtain ⟨kk, hk2⟩ : ∃ kk, k = kk + 1 := ⟨k - 1, by omega⟩
      have hv : inR 7 0 v := by show 0 ≤ v ∧ v ≤ (299 : Int); omega
      refine T.aload_n dX8_hangs_86 rfl ?_
      refine T.mget (v := rf E 10 0 0) dX8_hangs_87 fo_X8_26 ok0 rfl rfl ?_
      refine T.aload_n dX8_hangs_90 rfl ?_
      refine T.mget (v := rf E 1 0 0) dX8_hangs_91 fo_X8_10 ok0 rfl rfl ?_
      refine T.iload_n dX8_hangs_94 rfl ?_
      refine T.cV0 (As := [rf E 1 0 0, .int (iI (ln : Int))]) (st := []) dX8_hangs_95 lk_X8_193 (c_start E D 0 0 ln (by decide) hD (by decide) (by decide) hln) (ok10 (by decide)) rfl rfl (by decide) rfl rfl (Nat.le_of_ble_eq_true rfl) ?_
      refine T.aload_n dX8_hangs_98 rfl ?_
      refine T.mget (v := rf E 10 0 0) dX8_hangs_99 fo_X8_26 ok0 rfl rfl ?_
      refine T.mget (v := rf E 1 (2 + 0) 0) dX8_hangs_102 fo_X8_254 (ok10 (by decide)) rfl rfl ?_
      refine T.mget (v := rf E 3 (2 + 0) 0) dX8_hangs_105 fo_X8_119 (ok1 (by omega)) rfl rfl ?_
      refine T.iload_n dX8_hangs_108 rfl ?_
      refine T.mald (C := RX4) (x := p) dX8_hangs_109 (ok3 (by omega)) (fun _ => rfl) rfl rfl (by omega) ?_
      refine T.iload dX8_hangs_110 rfl ?_
      refine T.mputI dX8_hangs_112 fp_X8_131 (ok7 (by omega) (by omega)) rfl rfl (Nat.le_of_ble_eq_true rfl) ?_
      rw [up_wrC_o rfl]
      refine T.aload_n dX8_hangs_115 rfl ?_
      refine T.mget (v := rf E 10 0 0) dX8_hangs_116 fo_X8_26 ok0 rfl rfl ?_
      refine T.iload dX8_hangs_119 rfl ?_
      refine T.cV0 (As := [.int (iI y)]) (st := []) dX8_hangs_121 lk_X8_255 (c_goBehind E (exM D ln p 0 v) 0 (stS (bk (stM D 0 0 ln) (2 + 0)) (fun k => (stM D 0 0 ln) k 0 0)) y (by decide) (exM_inv hD hv) (st_inv hD).1 (fun d hd => (st_inv hD).2 d hd) (by omega)) (ok10 (by decide)) rfl rfl (by decide) rfl rfl (Nat.le_of_ble_eq_true rfl) ?_
      refine T.aload_n dX8_hangs_124 rfl ?_
      refine T.mget (v := rf E 10 0 0) dX8_hangs_125 fo_X8_26 ok0 rfl rfl ?_
      refine T.cV1 (As := []) (st := []) dX8_hangs_128 lk_X8_189 (c_owedNow E (exM D ln p 0 v) 0 (exS D ln p 0 v y) (by decide) (exM_inv hD hv) (exS_inv hD hv (by omega)).1) (ok10 (by decide)) rfl rfl (by decide) rfl rfl (Nat.le_of_ble_eq_true rfl) ?_
      have z2 := exO_bd (ln := ln) (p := p) hD hv hy.2
      refine T.lstore (ls' := [some (rf E 0 0 0), some (.int (iI (ln : Int))), some (.int (iI (p : Int))), some (.int (iI fr)), none, some (.int (iI y)), some (.int (iI t)), some (.int (iI la)), some (.long (lI fd)), none, some (.int (iI v)), some (.long (lI (exO D ln p 0 v y))), none]) dX8_hangs_131 rfl ?_
      refine T.iload dX8_hangs_133 rfl ?_
      refine T.iload_n dX8_hangs_135 rfl ?_
      refine T.icmp_ne 146 dX8_hangs_136 (by unfold rg; omega) (by unfold rg; omega) (fun c3 => ?_) (fun c3 => ?_)
      · refine T.iload dX8_hangs_146 rfl ?_
        refine T.if_ne 161 dX8_hangs_148 (by unfold rg; omega) (fun c4 => ?_) (fun c4 => ?_)
        · refine T.lload dX8_hangs_161 rfl ?_
          refine T.lload dX8_hangs_163 rfl ?_
          refine T.lmax dX8_hangs_165 llx_X8_263 (by unfold rl; omega) (by unfold rl; omega) (by decide) (Nat.le_of_ble_eq_true rfl) ?_
          refine T.lstore (ls' := [some (rf E 0 0 0), some (.int (iI (ln : Int))), some (.int (iI (p : Int))), some (.int (iI fr)), none, some (.int (iI y)), some (.int (iI t)), some (.int (iI la)), some (.long (lI (max fd (exO D ln p 0 v y)))), none, some (.int (iI v)), some (.long (lI (exO D ln p 0 v y))), none]) dX8_hangs_168 rfl ?_
          refine T.iinc (ls' := [some (rf E 0 0 0), some (.int (iI (ln : Int))), some (.int (iI (p : Int))), some (.int (iI fr)), none, some (.int (iI y)), some (.int (iI t)), some (.int (iI la)), some (.long (lI (max fd (exO D ln p 0 v y)))), none, some (.int (iI (v + 1))), some (.long (lI (exO D ln p 0 v y))), none]) dX8_hangs_170 rfl rfl ?_
          refine T.goto 79 dX8_hangs_173 ?_
          refine T.fgt (ls' := [some (rf E 0 0 0), some (.int (iI (ln : Int))), some (.int (iI (p : Int))), some (.int (iI fr)), none, some (.int (iI y)), some (.int (iI t)), some (.int (iI la)), some (.long (lI (max fd (exO D ln p 0 v y)))), none, some (.int (iI (v + 1))), none, none]) (by simp [lsw]) ?_
          have hq : hgL ln p y t fr k v D fd = hgL ln p y t fr kk (v + 1) (exD D ln p 0 v y) (max fd (exO D ln p 0 v y)) := by
            rw [hk2]
            show hgL ln p y t fr kk (v + 1) (exD D ln p 0 v y) (if v = fr then exO D ln p 0 v y else if t = 0 then min fd (exO D ln p 0 v y) else max fd (exO D ln p 0 v y)) = _
            first | rw [if_pos (by omega)] | rw [if_neg (by omega), if_pos (by omega)] | rw [if_neg (by omega), if_neg (by omega)]
          rw [hq]
          exact ih kk (by omega) (v + 1) (exD D ln p 0 v y) (max fd (exO D ln p 0 v y)) (by omega) (exD_inv hD hv hy.2) (by omega) (by omega)
        · refine T.lload dX8_hangs_151 rfl ?_
          refine T.lload dX8_hangs_153 rfl ?_
          refine T.lmin dX8_hangs_155 lln_X8_260 (by unfold rl; omega) (by unfold rl; omega) (by decide) (Nat.le_of_ble_eq_true rfl) ?_
          refine T.goto 168 dX8_hangs_158 ?_
          refine T.lstore (ls' := [some (rf E 0 0 0), some (.int (iI (ln : Int))), some (.int (iI (p : Int))), some (.int (iI fr)), none, some (.int (iI y)), some (.int (iI t)), some (.int (iI la)), some (.long (lI (min fd (exO D ln p 0 v y)))), none, some (.int (iI v)), some (.long (lI (exO D ln p 0 v y))), none]) dX8_hangs_168 rfl ?_
          refine T.iinc (ls' := [some (rf E 0 0 0), some (.int (iI (ln : Int))), some (.int (iI (p : Int))), some (.int (iI fr)), none, some (.int (iI y)), some (.int (iI t)), some (.int (iI la)), some (.long (lI (min fd (exO D ln p 0 v y)))), none, some (.int (iI (v + 1))), some (.long (lI (exO D ln p 0 v y))), none]) dX8_hangs_170 rfl rfl ?_
          refine T.goto 79 dX8_hangs_173 ?_
          refine T.fgt (ls' := [some (rf E 0 0 0), some (.int (iI (ln : Int))), some (.int (iI (p : Int))), some (.int (iI fr)), none, some (.int (iI y)), some (.int (iI t)), some (.int (iI la)), some (.long (lI (min fd (exO D ln p 0 v y)))), none, some (.int (iI (v + 1))), none, none]) (by simp [lsw]) ?_
          have hq : hgL ln p y t fr k v D fd = hgL ln p y t fr kk (v + 1) (exD D ln p 0 v y) (min fd (exO D ln p 0 v y)) := by
            rw [hk2]
            show hgL ln p y t fr kk (v + 1) (exD D ln p 0 v y) (if v = fr then exO D ln p 0 v y else if t = 0 then min fd (exO D ln p 0 v y) else max fd (exO D ln p 0 v y)) = _
            first | rw [if_pos (by omega)] | rw [if_neg (by omega), if_pos (by omega)] | rw [if_neg (by omega), if_neg (by omega)]
          rw [hq]
          exact ih kk (by omega) (v + 1) (exD D ln p 0 v y) (min fd (exO D ln p 0 v y)) (by omega) (exD_inv hD hv hy.2) (by omega) (by omega)
      · refine T.lload dX8_hangs_139 rfl ?_
        refine T.lstore (ls' := [some (rf E 0 0 0), some (.int (iI (ln : Int))), some (.int (iI (p : Int))), some (.int (iI fr)), none, some (.int (iI y)), some (.int (iI t)), some (.int (iI la)), some (.long (lI (exO D ln p 0 v y))), none, some (.int (iI v)), some (.long (lI (exO D ln p 0 v y))), none]) dX8_hangs_141 rfl ?_
        refine T.goto 170 dX8_hangs_143 ?_
        refine T.iinc (ls' := [some (rf E 0 0 0), some (.int (iI (ln : Int))), some (.int (iI (p : Int))), some (.int (iI fr)), none, some (.int (iI y)), some (.int (iI t)), some (.int (iI la)), some (.long (lI (exO D ln p 0 v y))), none, some (.int (iI (v + 1))), some (.long (lI (exO D ln p 0 v y))), none]) dX8_hangs_170 rfl rfl ?_
        refine T.goto 79 dX8_hangs_173 ?_
        refine T.fgt (ls' := [some (rf E 0 0 0), some (.int (iI (ln : Int))), some (.int (iI (p : Int))), some (.int (iI fr)), none, some (.int (iI y)), some (.int (iI t)), some (.int (iI la)), some (.long (lI (exO D ln p 0 v y))), none, some (.int (iI (v + 1))), none, none]) (by simp [lsw]) ?_
        have hq : hgL ln p y t fr k v D fd = hgL ln p y t fr kk (v + 1) (exD D ln p 0 v y) (exO D ln p 0 v y) := by
          rw [hk2]
          show hgL ln p y t fr kk (v + 1) (exD D ln p 0 v y) (if v = fr then exO D ln p 0 v y else if t = 0 then min fd (exO D ln p 0 v y) else max fd (exO D ln p 0 v y)) = _
          first | rw [if_pos (by omega)] | rw [if_neg (by omega), if_pos (by omega)] | rw [if_neg (by omega), if_neg (by omega)]
        rw [hq]
        exact ih kk (by omega) (v + 1) (exD D ln p 0 v y) (exO D ln p 0 v y) (by omega) (exD_inv hD hv hy.2) (by omega) (by omega)
noncomputable def hangsR (m : Mem) (l p fr to y t : Int) : Int := if ¬ ((0 ≤ l ∧ l ≤ 1) ∧ (0 ≤ p ∧ p ≤ m 1 0 0 3 - 1) ∧ (0 ≤ fr ∧ fr ≤ 299) ∧ (0 ≤ to ∧ to ≤ 299) ∧ (0 ≤ y ∧ y ≤ 299) ∧ (0 ≤ t ∧ t ≤ 1) ∧ fr ≤ to) then -1 else (hgL l.toNat p.toNat y t fr ((min to (max fr (y + 1))) + 1 - fr).toNat fr m 0).2
noncomputable def hangsM (m : Mem) (l p fr to y t : Int) : Mem := if ¬ ((0 ≤ l ∧ l ≤ 1) ∧ (0 ≤ p ∧ p ≤ m 1 0 0 3 - 1) ∧ (0 ≤ fr ∧ fr ≤ 299) ∧ (0 ≤ to ∧ to ≤ 299) ∧ (0 ≤ y ∧ y ≤ 299) ∧ (0 ≤ t ∧ t ≤ 1) ∧ fr ≤ to) then m else (hgL l.toNat p.toNat y t fr ((min to (max fr (y + 1))) + 1 - fr).toNat fr m 0).1
set_option maxHeartbeats 4000000 in
set_option maxRecDepth 100000 in
theorem c_hangs (E : Ev) (m : Mem) (l p fr to y t : Int) (hI : Inv m) (h1 : rg l) (h2 : rg p) (h3 : rg fr) (h4 : rg to) (h5 : rg y) (h6 : rg t) : CT E 7 mX8_hangs [rf E 0 0 0, .int (iI l), .int (iI p), .int (iI fr), .int (iI to), .int (iI y), .int (iI t)] (hp E m) (some (.long (lI (hangsR m l p fr to y t)))) (hp E (hangsM m l p fr to y t)) := by
  refine CT.go okX8_hangs (Nat.le_of_ble_eq_true rfl) ?_
  show T E 7 mX8_hangs 0 [some (rf E 0 0 0), some (.int (iI l)), some (.int (iI p)), some (.int (iI fr)), some (.int (iI to)), some (.int (iI y)), some (.int (iI t)), none, none, none, none, none, none] [] (hp E m) _
  unfold rg at h1 h2 h3 h4 h5 h6
  refine T.iload_n dX8_hangs_0 rfl ?_
  refine T.cS1 (As := [.int (iI l)]) (st := []) dX8_hangs_1 lk_X8_153 (c_isLaw E _ (by unfold rg; omega)) (by decide) rfl rfl (Nat.le_of_ble_eq_true rfl) ?_
  refine T.ifB_eq 54 dX8_hangs_4 (fun c1 => ?_) (fun c1 => ?_)
  · refine T.ldc2 dX8_hangs_54 kl_X8_174 ?_
    exact T.lret dX8_hangs_57 ⟨congrArg (fun z => some (Value.long (lI z))) (Eq.symm (show hangsR m l p fr to y t = (-1) from by unfold hangsR; rw [if_pos (by omega)] <;> first | rfl | omega)), congrArg (hp E) (Eq.symm (show hangsM m l p fr to y t = m from by unfold hangsM; rw [if_pos (by omega)] <;> rfl))⟩
  · refine T.aload_n dX8_hangs_7 rfl ?_
    refine T.iload_n dX8_hangs_8 rfl ?_
    refine T.cV1 (As := [.int (iI p)]) (st := []) dX8_hangs_9 lk_X8_113 (c_isPayment E m hI (by unfold rg; omega)) ok0 rfl rfl (by decide) rfl rfl (Nat.le_of_ble_eq_true rfl) ?_
    have n2 : (0 ≤ m 1 0 0 1 ∧ m 1 0 0 1 ≤ 8) ∧ 0 ≤ m 1 0 0 3 ∧ m 1 0 0 3 ≤ 12 := ⟨hI 1 0 0 1, hI 1 0 0 3⟩
    refine T.ifB_eq 54 dX8_hangs_12 (fun c3 => ?_) (fun c3 => ?_)
    · refine T.ldc2 dX8_hangs_54 kl_X8_174 ?_
      exact T.lret dX8_hangs_57 ⟨congrArg (fun z => some (Value.long (lI z))) (Eq.symm (show hangsR m l p fr to y t = (-1) from by unfold hangsR; rw [if_pos (by omega)] <;> first | rfl | omega)), congrArg (hp E) (Eq.symm (show hangsM m l p fr to y t = m from by unfold hangsM; rw [if_pos (by omega)] <;> rfl))⟩
    · refine T.iload_n dX8_hangs_15 rfl ?_
      refine T.cS1 (As := [.int (iI fr)]) (st := []) dX8_hangs_16 lk_X8_58 (c_isDay E _ (by unfold rg; omega)) (by decide) rfl rfl (Nat.le_of_ble_eq_true rfl) ?_
      refine T.ifB_eq 54 dX8_hangs_19 (fun c4 => ?_) (fun c4 => ?_)
      · refine T.ldc2 dX8_hangs_54 kl_X8_174 ?_
        exact T.lret dX8_hangs_57 ⟨congrArg (fun z => some (Value.long (lI z))) (Eq.symm (show hangsR m l p fr to y t = (-1) from by unfold hangsR; rw [if_pos (by omega)] <;> first | rfl | omega)), congrArg (hp E) (Eq.symm (show hangsM m l p fr to y t = m from by unfold hangsM; rw [if_pos (by omega)] <;> rfl))⟩
      · refine T.iload dX8_hangs_22 rfl ?_
        refine T.cS1 (As := [.int (iI to)]) (st := []) dX8_hangs_24 lk_X8_58 (c_isDay E _ (by unfold rg; omega)) (by decide) rfl rfl (Nat.le_of_ble_eq_true rfl) ?_
        refine T.ifB_eq 54 dX8_hangs_27 (fun c5 => ?_) (fun c5 => ?_)
        · refine T.ldc2 dX8_hangs_54 kl_X8_174 ?_
          exact T.lret dX8_hangs_57 ⟨congrArg (fun z => some (Value.long (lI z))) (Eq.symm (show hangsR m l p fr to y t = (-1) from by unfold hangsR; rw [if_pos (by omega)] <;> first | rfl | omega)), congrArg (hp E) (Eq.symm (show hangsM m l p fr to y t = m from by unfold hangsM; rw [if_pos (by omega)] <;> rfl))⟩
        · refine T.iload dX8_hangs_30 rfl ?_
          refine T.cS1 (As := [.int (iI y)]) (st := []) dX8_hangs_32 lk_X8_58 (c_isDay E _ (by unfold rg; omega)) (by decide) rfl rfl (Nat.le_of_ble_eq_true rfl) ?_
          refine T.ifB_eq 54 dX8_hangs_35 (fun c6 => ?_) (fun c6 => ?_)
          · refine T.ldc2 dX8_hangs_54 kl_X8_174 ?_
            exact T.lret dX8_hangs_57 ⟨congrArg (fun z => some (Value.long (lI z))) (Eq.symm (show hangsR m l p fr to y t = (-1) from by unfold hangsR; rw [if_pos (by omega)] <;> first | rfl | omega)), congrArg (hp E) (Eq.symm (show hangsM m l p fr to y t = m from by unfold hangsM; rw [if_pos (by omega)] <;> rfl))⟩
          · refine T.iload dX8_hangs_38 rfl ?_
            refine T.iconst dX8_hangs_40 ?_
            refine T.iconst dX8_hangs_41 ?_
            refine T.cS1 (As := [.int (iI t), .int (iI 0), .int (iI 1)]) (st := []) dX8_hangs_42 lk_X8_54 (c_within E _ (by unfold rg; omega) (by unfold rg; omega) (by unfold rg; omega)) (by decide) rfl rfl (Nat.le_of_ble_eq_true rfl) ?_
            refine T.ifB_eq 54 dX8_hangs_45 (fun c7 => ?_) (fun c7 => ?_)
            · refine T.ldc2 dX8_hangs_54 kl_X8_174 ?_
              exact T.lret dX8_hangs_57 ⟨congrArg (fun z => some (Value.long (lI z))) (Eq.symm (show hangsR m l p fr to y t = (-1) from by unfold hangsR; rw [if_pos (by omega)] <;> first | rfl | omega)), congrArg (hp E) (Eq.symm (show hangsM m l p fr to y t = m from by unfold hangsM; rw [if_pos (by omega)] <;> rfl))⟩
            · refine T.iload_n dX8_hangs_48 rfl ?_
              refine T.iload dX8_hangs_49 rfl ?_
              refine T.icmp_le 58 dX8_hangs_51 (by unfold rg; omega) (by unfold rg; omega) (fun c8 => ?_) (fun c8 => ?_)
              · refine T.iload dX8_hangs_58 rfl ?_
                refine T.iload_n dX8_hangs_60 rfl ?_
                refine T.iload dX8_hangs_61 rfl ?_
                refine T.iconst dX8_hangs_63 ?_
                refine T.iadd dX8_hangs_64 ?_
                refine T.mmax dX8_hangs_65 lmx_X8_231 (by unfold rg; omega) (by unfold rg; omega) (by decide) (Nat.le_of_ble_eq_true rfl) ?_
                refine T.mmin dX8_hangs_68 lmn_X8_257 (by unfold rg; omega) (by unfold rg; omega) (by decide) (Nat.le_of_ble_eq_true rfl) ?_
                refine T.istore (ls' := [some (rf E 0 0 0), some (.int (iI l)), some (.int (iI p)), some (.int (iI fr)), some (.int (iI to)), some (.int (iI y)), some (.int (iI t)), some (.int (iI (min to (max fr (y + 1))))), none, none, none, none, none]) dX8_hangs_71 rfl ?_
                refine T.lconst0 dX8_hangs_73 ?_
                refine T.lstore (ls' := [some (rf E 0 0 0), some (.int (iI l)), some (.int (iI p)), some (.int (iI fr)), some (.int (iI to)), some (.int (iI y)), some (.int (iI t)), some (.int (iI (min to (max fr (y + 1))))), some (.long (lI 0)), none, none, none, none]) dX8_hangs_74 rfl ?_
                refine T.iload_n dX8_hangs_76 rfl ?_
                refine T.istore (ls' := [some (rf E 0 0 0), some (.int (iI l)), some (.int (iI p)), some (.int (iI fr)), some (.int (iI to)), some (.int (iI y)), some (.int (iI t)), some (.int (iI (min to (max fr (y + 1))))), some (.long (lI 0)), none, some (.int (iI fr)), none, none]) dX8_hangs_77 rfl ?_
                refine T.fgt (ls' := [some (rf E 0 0 0), some (.int (iI l)), some (.int (iI p)), some (.int (iI fr)), none, some (.int (iI y)), some (.int (iI t)), some (.int (iI (min to (max fr (y + 1))))), some (.long (lI 0)), none, some (.int (iI fr)), none, none]) (by simp [lsw]) ?_
                rw [show hangsR m l p fr to y t = (hgL l.toNat p.toNat y t fr ((min to (max fr (y + 1))) + 1 - fr).toNat fr m 0).2 from by unfold hangsR; rw [if_neg (by omega)], show hangsM m l p fr to y t = (hgL l.toNat p.toNat y t fr ((min to (max fr (y + 1))) + 1 - fr).toNat fr m 0).1 from by unfold hangsM; rw [if_neg (by omega)]]
                have h0 := c_hg_lp E l.toNat p.toNat y t fr (min to (max fr (y + 1))) (by omega) (by omega) (by omega) (by omega) (by omega) (by omega) ((min to (max fr (y + 1))) + 1 - fr).toNat fr m 0 (by omega) hI (by omega) (by omega)
                rw [show ((l.toNat : Nat) : Int) = l from by omega, show ((p.toNat : Nat) : Int) = p from by omega] at h0
                exact h0
              · refine T.ldc2 dX8_hangs_54 kl_X8_174 ?_
                exact T.lret dX8_hangs_57 ⟨congrArg (fun z => some (Value.long (lI z))) (Eq.symm (show hangsR m l p fr to y t = (-1) from by unfold hangsR; rw [if_pos (by omega)] <;> first | rfl | omega)), congrArg (hp E) (Eq.symm (show hangsM m l p fr to y t = m from by unfold hangsM; rw [if_pos (by omega)] <;> rfl))⟩
