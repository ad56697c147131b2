noncomputable def plH (G : PS) (l : Nat) (w x : Int) : PS := paS G l (10000 * w) (-1) (-1) x
noncomputable def plN (l : Nat) (w y e t : Int) : Nat → Nat → PS → Int × PS
  | 0, _, D => (-4, D)
  | f + 1, x, D => if y ≤ x ∧ ((x : Int) - y) % e = 0 then (if owM (plH (gdS D l x) l w x) (D 29 0).toNat = 0 then (if t = 0 then (x : Int) else plH (gdS D l x) l w x 29 15, plH (gdS D l x) l w x) else plN l w y e t f (x + 1) (plH (gdS D l x) l w x)) else plN l w y e t f (x + 1) (gdS D l x)
set_option maxHeartbeats 4000000 in
set_option maxRecDepth 100000 in
theorem n_plan_lp (E : Ev) (m : Mem) (l : Nat) (w y e t : Int) (hl : l < 2) (hw : 1 ≤ w ∧ w ≤ 9999) (hy : 0 ≤ y ∧ y ≤ 299) (he : 1 ≤ e ∧ e ≤ 60) (ht : 0 ≤ t ∧ t ≤ 1) (N : Nat) (hN : N = 300) : ∀ (k : Nat) (x : Nat) (D : PS), N - x = k → x ≤ N → InvS kM D → mOK D → CM D ((x : Int) - 1).toNat → Z40 D x → T E 9 mX9_plan 61 [some (rf E 29 0 0), some (.int (iI (l : Int))), some (.int (iI w)), some (.int (iI y)), some (.int (iI e)), some (.int (iI t)), some (.int (iI (x : Int)))] [] (hp E (wrM m D)) (fun r' h' => r' = some (.long (lI (plN l w y e t (N - x) x D).1)) ∧ h' = hp E (wrM m (plN l w y e t (N - x) x D).2)) := by
  intro k
  induction k using Nat.strongRecOn with
  | ind k ih =>
    intro x D hk hxN hD hDO hcm hz
    have hem : 0 ≤ ((x : Int) - y) % e ∧ ((x : Int) - y) % e < e := ⟨Int.emod_nonneg _ (by omega), Int.emod_lt_of_pos _ (by omega)⟩
    refine T.iload dX9_plan_61 rfl ?_
    refine T.sipush dX9_plan_63 ?_
    refine T.icmp_gt 138 dX9_plan_66 (by unfold rg; omega) (by unfold rg; omega) (fun c1 => ?_) (fun c1 => ?_)
    · refine T.ldc2 dX9_plan_138 kl_X9_209 ?_
      rw [show N - x = 0 from by omega]
      exact T.lret dX9_plan_141 ⟨rfl, rfl⟩
    · refine T.aload_n dX9_plan_69 rfl ?_
      refine T.iload_n dX9_plan_70 rfl ?_
      refine T.iload dX9_plan_71 rfl ?_
      refine T.cV0 (As := [.int (iI (l : Int)), .int (iI (x : Int))]) (st := []) dX9_plan_73 lk_X9_183 (n_goDay E m D l (x : Int) hD hDO hcm hz hl (by omega)) ok29 rfl rfl (by decide) rfl rfl (Nat.le_of_ble_eq_true rfl) ?_
      have g1 := gdS_ok (l := l) hD hDO hcm hz (show 0 ≤ (x : Int) ∧ (x : Int) ≤ 299 by omega)
      refine T.iload dX9_plan_76 rfl ?_
      refine T.iload_n dX9_plan_78 rfl ?_
      refine T.icmp_lt 132 dX9_plan_79 (by unfold rg; omega) (by unfold rg; omega) (fun c2 => ?_) (fun c2 => ?_)
      · refine T.iinc (ls' := [some (rf E 29 0 0), some (.int (iI (l : Int))), some (.int (iI w)), some (.int (iI y)), some (.int (iI e)), some (.int (iI t)), some (.int (iI ((x : Int) + 1)))]) dX9_plan_132 rfl rfl ?_
        refine T.goto 61 dX9_plan_135 ?_
        have hq : plN l w y e t (N - x) x D = plN l w y e t (N - (x + 1)) (x + 1) (gdS D l (x : Int)) := by
          rw [show N - x = (N - (x + 1)) + 1 from by omega]
          exact if_neg (fun z => by obtain ⟨z1, z2⟩ := z; omega)
        rw [hq]
        exact ih (N - (x + 1)) (by omega) (x + 1) _ rfl (by omega) g1.1 (hDO.wf g1.2.2.2) (by rw [show (((x + 1 : Nat) : Int) - 1).toNat = (x : Int).toNat from by omega]; exact g1.2.1) (by rw [show ((x + 1 : Nat) : Int) = (x : Int) + 1 from by omega]; exact g1.2.2.1)
      · refine T.iload dX9_plan_82 rfl ?_
        refine T.iload_n dX9_plan_84 rfl ?_
        refine T.isub dX9_plan_85 ?_
        refine T.iload dX9_plan_86 rfl ?_
        refine T.irem dX9_plan_88 (by unfold rg; omega) (by unfold rg; omega) (by omega) (by omega) ?_
        refine T.if_ne 132 dX9_plan_89 (by unfold rg; omega) (fun c3 => ?_) (fun c3 => ?_)
        · refine T.iinc (ls' := [some (rf E 29 0 0), some (.int (iI (l : Int))), some (.int (iI w)), some (.int (iI y)), some (.int (iI e)), some (.int (iI t)), some (.int (iI ((x : Int) + 1)))]) dX9_plan_132 rfl rfl ?_
          refine T.goto 61 dX9_plan_135 ?_
          have hq : plN l w y e t (N - x) x D = plN l w y e t (N - (x + 1)) (x + 1) (gdS D l (x : Int)) := by
            rw [show N - x = (N - (x + 1)) + 1 from by omega]
            exact if_neg (fun z => by obtain ⟨z1, z2⟩ := z; omega)
          rw [hq]
          exact ih (N - (x + 1)) (by omega) (x + 1) _ rfl (by omega) g1.1 (hDO.wf g1.2.2.2) (by rw [show (((x + 1 : Nat) : Int) - 1).toNat = (x : Int).toNat from by omega]; exact g1.2.1) (by rw [show ((x + 1 : Nat) : Int) = (x : Int) + 1 from by omega]; exact g1.2.2.1)
        · refine T.aload_n dX9_plan_92 rfl ?_
          refine T.iload_n dX9_plan_93 rfl ?_
          refine T.ldc2 dX9_plan_94 kl_X9_135 ?_
          refine T.iload_n dX9_plan_97 rfl ?_
          refine T.i2l dX9_plan_98 (by unfold rg; omega) ?_
          refine T.lmul dX9_plan_99 ?_
          refine T.iconst dX9_plan_100 ?_
          refine T.iconst dX9_plan_101 ?_
          refine T.iload dX9_plan_102 rfl ?_
          refine T.cV0 (As := [.int (iI (l : Int)), .long (lI (10000 * w)), .int (iI (-1)), .int (iI (-1)), .int (iI (x : Int))]) (st := []) dX9_plan_104 lk_X9_168 (n_putAll E m (gdS D l (x : Int)) l (10000 * w) (-1) (-1) (x : Int) g1.1 hl (by omega) (by omega) (by omega) (by omega)) ok29 rfl rfl (by decide) rfl rfl (Nat.le_of_ble_eq_true rfl) ?_
          have p1 := paS_ok (l := l) (w := -1) (an := -1) g1.1 (show 0 ≤ (x : Int) ∧ (x : Int) ≤ 299 by omega) (show 0 ≤ 10000 * w ∧ 10000 * w ≤ 99990000 by omega)
          have e0 : (plH (gdS D l (x : Int)) l w (x : Int)) 29 0 = D 29 0 := (g1.2.2.2.tr p1.2.1).2 0 (by decide)
          have hob := owM_bd p1.1 (D 29 0).toNat
          have hob2 : 0 ≤ owM (plH (gdS D l (x : Int)) l w (x : Int)) (D 29 0).toNat ∧ owM (plH (gdS D l (x : Int)) l w (x : Int)) (D 29 0).toNat ≤ 4099990000 * ((D 29 0).toNat : Int) := hob
          have hn8 : 0 ≤ D 29 0 ∧ D 29 0 ≤ 8 := hD 29 0 rfl
          refine T.aload_n dX9_plan_107 rfl ?_
          refine T.cV1 (As := []) (st := []) dX9_plan_108 lk_X9_189 (by have h0 := n_owedNow E m (plH (gdS D l (x : Int)) l w (x : Int)) p1.1; rw [e0] at h0; exact h0) ok29 rfl rfl (by decide) rfl rfl (Nat.le_of_ble_eq_true rfl) ?_
          refine T.lconst0 dX9_plan_111 ?_
          refine T.lcmp_ne 132 dX9_plan_112 dX9_plan_113 (by unfold rl; omega) (by unfold rl; omega) (fun c4 => ?_) (fun c4 => ?_)
          · refine T.iinc (ls' := [some (rf E 29 0 0), some (.int (iI (l : Int))), some (.int (iI w)), some (.int (iI y)), some (.int (iI e)), some (.int (iI t)), some (.int (iI ((x : Int) + 1)))]) dX9_plan_132 rfl rfl ?_
            refine T.goto 61 dX9_plan_135 ?_
            have hq : plN l w y e t (N - x) x D = plN l w y e t (N - (x + 1)) (x + 1) (plH (gdS D l (x : Int)) l w (x : Int)) := by
              rw [show N - x = (N - (x + 1)) + 1 from by omega]
              exact (if_pos ⟨by omega, by omega⟩).trans (if_neg (by omega))
            rw [hq]
            exact ih (N - (x + 1)) (by omega) (x + 1) _ rfl (by omega) p1.1 ((hDO.wf g1.2.2.2).wf p1.2.1) (by rw [show (((x + 1 : Nat) : Int) - 1).toNat = (x : Int).toNat from by omega]; exact p1.2.cm g1.2.1) (by rw [show ((x + 1 : Nat) : Int) = (x : Int) + 1 from by omega]; exact p1.2.z40 g1.2.2.1)
          · refine T.iload dX9_plan_116 rfl ?_
            refine T.if_ne 127 dX9_plan_118 (by unfold rg; omega) (fun c5 => ?_) (fun c5 => ?_)
            · refine T.aload_n dX9_plan_127 rfl ?_
              refine T.gL (z := (plH (gdS D l (x : Int)) l w (x : Int)) 29 15) dX9_plan_128 fo_X9_149 ok29 rfl rfl (wrM_c rfl) ?_
              have hq : plN l w y e t (N - x) x D = (if t = 0 then (x : Int) else (plH (gdS D l (x : Int)) l w (x : Int)) 29 15, (plH (gdS D l (x : Int)) l w (x : Int))) := by
                rw [show N - x = (N - (x + 1)) + 1 from by omega]
                exact (if_pos ⟨by omega, by omega⟩).trans (if_pos (by omega))
              rw [hq]
              exact T.lret dX9_plan_131 ⟨by rw [if_neg (by omega)], rfl⟩
            · refine T.iload dX9_plan_121 rfl ?_
              refine T.i2l dX9_plan_123 (by unfold rg; omega) ?_
              refine T.goto 131 dX9_plan_124 ?_
              have hq : plN l w y e t (N - x) x D = (if t = 0 then (x : Int) else (plH (gdS D l (x : Int)) l w (x : Int)) 29 15, (plH (gdS D l (x : Int)) l w (x : Int))) := by
                rw [show N - x = (N - (x + 1)) + 1 from by omega]
                exact (if_pos ⟨by omega, by omega⟩).trans (if_pos (by omega))
              rw [hq]
              exact T.lret dX9_plan_131 ⟨by rw [if_pos (by omega)], rfl⟩
noncomputable def nplanR (S : PS) (N : Nat) (l w y e t : Int) : Int := if ¬ ((0 ≤ l ∧ l ≤ 1) ∧ (1 ≤ w ∧ w ≤ 9999) ∧ (0 ≤ y ∧ y ≤ 299) ∧ (1 ≤ e ∧ e ≤ 60) ∧ (0 ≤ t ∧ t ≤ 1)) then -1 else (plN l.toNat w y e t N 0 (begS S)).1
noncomputable def nplanS (S : PS) (N : Nat) (l w y e t : Int) : PS := if ¬ ((0 ≤ l ∧ l ≤ 1) ∧ (1 ≤ w ∧ w ≤ 9999) ∧ (0 ≤ y ∧ y ≤ 299) ∧ (1 ≤ e ∧ e ≤ 60) ∧ (0 ≤ t ∧ t ≤ 1)) then S else (plN l.toNat w y e t N 0 (begS S)).2
set_option maxHeartbeats 4000000 in
set_option maxRecDepth 100000 in
theorem n_plan (E : Ev) (m : Mem) (S : PS) (N : Nat) (l w y e t : Int) (hS : InvS kM S) (hN : N = 300) (hO : mOK S) (h1 : rg l) (h2 : rg w) (h3 : rg y) (h4 : rg e) (h5 : rg t) : CT E 9 mX9_plan [rf E 29 0 0, .int (iI l), .int (iI w), .int (iI y), .int (iI e), .int (iI t)] (hp E (wrM m S)) (some (.long (lI (nplanR S N l w y e t)))) (hp E (wrM m (nplanS S N l w y e t))) := by
  refine CT.go okX9_plan (Nat.le_of_ble_eq_true rfl) ?_
  show T E 9 mX9_plan 0 [some (rf E 29 0 0), some (.int (iI l)), some (.int (iI w)), some (.int (iI y)), some (.int (iI e)), some (.int (iI t)), none] [] (hp E (wrM m S)) _
  unfold rg at h1 h2 h3 h4 h5
  refine T.iload_n dX9_plan_0 rfl ?_
  refine T.cS1 (As := [.int (iI l)]) (st := []) dX9_plan_1 lk_X9_129 (n_isLaw E _ (by unfold rg; omega)) (by decide) rfl rfl (Nat.le_of_ble_eq_true rfl) ?_
  refine T.ifB_eq 50 dX9_plan_4 (fun c1 => ?_) (fun c1 => ?_)
  · refine T.ldc2 dX9_plan_50 kl_X9_107 ?_
    exact T.lret dX9_plan_53 ⟨congrArg (fun z => some (Value.long (lI z))) (Eq.symm (show nplanR S N l w y e t = (-1) from by unfold nplanR; rw [if_pos (by omega)] <;> first | rfl | omega)), congrArg (fun z => hp E (wrM m z)) (Eq.symm (show nplanS S N l w y e t = S from by unfold nplanS; rw [if_pos (by omega)] <;> rfl))⟩
  · refine T.iload_n dX9_plan_7 rfl ?_
    refine T.i2l dX9_plan_8 (by unfold rg; omega) ?_
    refine T.lconst1 dX9_plan_9 ?_
    refine T.ldc2 dX9_plan_10 kl_X9_94 ?_
    refine T.cS1 (As := [.long (lI w), .long (lI 1), .long (lI 9999)]) (st := []) dX9_plan_13 lk_X9_83 (n_in E _ (by unfold rl; omega) (by unfold rl; omega) (by unfold rl; omega)) (by decide) rfl rfl (Nat.le_of_ble_eq_true rfl) ?_
    refine T.ifB_eq 50 dX9_plan_16 (fun c2 => ?_) (fun c2 => ?_)
    · refine T.ldc2 dX9_plan_50 kl_X9_107 ?_
      exact T.lret dX9_plan_53 ⟨congrArg (fun z => some (Value.long (lI z))) (Eq.symm (show nplanR S N l w y e t = (-1) from by unfold nplanR; rw [if_pos (by omega)] <;> first | rfl | omega)), congrArg (fun z => hp E (wrM m z)) (Eq.symm (show nplanS S N l w y e t = S from by unfold nplanS; rw [if_pos (by omega)] <;> rfl))⟩
    · refine T.iload_n dX9_plan_19 rfl ?_
      refine T.cS1 (As := [.int (iI y)]) (st := []) dX9_plan_20 lk_X9_96 (n_isDay E _ (by unfold rg; omega)) (by decide) rfl rfl (Nat.le_of_ble_eq_true rfl) ?_
      refine T.ifB_eq 50 dX9_plan_23 (fun c3 => ?_) (fun c3 => ?_)
      · refine T.ldc2 dX9_plan_50 kl_X9_107 ?_
        exact T.lret dX9_plan_53 ⟨congrArg (fun z => some (Value.long (lI z))) (Eq.symm (show nplanR S N l w y e t = (-1) from by unfold nplanR; rw [if_pos (by omega)] <;> first | rfl | omega)), congrArg (fun z => hp E (wrM m z)) (Eq.symm (show nplanS S N l w y e t = S from by unfold nplanS; rw [if_pos (by omega)] <;> rfl))⟩
      · refine T.iload dX9_plan_26 rfl ?_
        refine T.i2l dX9_plan_28 (by unfold rg; omega) ?_
        refine T.lconst1 dX9_plan_29 ?_
        refine T.ldc2 dX9_plan_30 kl_X9_207 ?_
        refine T.cS1 (As := [.long (lI e), .long (lI 1), .long (lI 60)]) (st := []) dX9_plan_33 lk_X9_83 (n_in E _ (by unfold rl; omega) (by unfold rl; omega) (by unfold rl; omega)) (by decide) rfl rfl (Nat.le_of_ble_eq_true rfl) ?_
        refine T.ifB_eq 50 dX9_plan_36 (fun c4 => ?_) (fun c4 => ?_)
        · refine T.ldc2 dX9_plan_50 kl_X9_107 ?_
          exact T.lret dX9_plan_53 ⟨congrArg (fun z => some (Value.long (lI z))) (Eq.symm (show nplanR S N l w y e t = (-1) from by unfold nplanR; rw [if_pos (by omega)] <;> first | rfl | omega)), congrArg (fun z => hp E (wrM m z)) (Eq.symm (show nplanS S N l w y e t = S from by unfold nplanS; rw [if_pos (by omega)] <;> rfl))⟩
        · refine T.iload dX9_plan_39 rfl ?_
          refine T.i2l dX9_plan_41 (by unfold rg; omega) ?_
          refine T.lconst0 dX9_plan_42 ?_
          refine T.lconst1 dX9_plan_43 ?_
          refine T.cS1 (As := [.long (lI t), .long (lI 0), .long (lI 1)]) (st := []) dX9_plan_44 lk_X9_83 (n_in E _ (by unfold rl; omega) (by unfold rl; omega) (by unfold rl; omega)) (by decide) rfl rfl (Nat.le_of_ble_eq_true rfl) ?_
          refine T.ifB_ne 54 dX9_plan_47 (fun c5 => ?_) (fun c5 => ?_)
          · refine T.aload_n dX9_plan_54 rfl ?_
            refine T.cV0 (As := []) (st := []) dX9_plan_55 lk_X9_180 (n_begin E m S) ok29 rfl rfl (by decide) rfl rfl (Nat.le_of_ble_eq_true rfl) ?_
            refine T.iconst dX9_plan_58 ?_
            refine T.istore (ls' := [some (rf E 29 0 0), some (.int (iI l)), some (.int (iI w)), some (.int (iI y)), some (.int (iI e)), some (.int (iI t)), some (.int (iI 0))]) dX9_plan_59 rfl ?_
            have b0 := md_ok (l := l.toNat) hS hO 0 (by omega)
            rw [show nplanR S N l w y e t = (plN l.toNat w y e t N 0 (begS S)).1 from by unfold nplanR; rw [if_neg (by omega)], show nplanS S N l w y e t = (plN l.toNat w y e t N 0 (begS S)).2 from by unfold nplanS; rw [if_neg (by omega)]]
            have h0 := n_plan_lp E m l.toNat w y e t (by omega) (by omega) (by omega) (by omega) (by omega) N hN _ 0 (begS S) rfl (Nat.zero_le _) b0.1 (hO.wf b0.2.2.2) b0.2.1 b0.2.2.1
            rw [show (((l).toNat : Nat) : Int) = l from by omega] at h0
            exact h0
          · refine T.ldc2 dX9_plan_50 kl_X9_107 ?_
            exact T.lret dX9_plan_53 ⟨congrArg (fun z => some (Value.long (lI z))) (Eq.symm (show nplanR S N l w y e t = (-1) from by unfold nplanR; rw [if_pos (by omega)] <;> first | rfl | omega)), congrArg (fun z => hp E (wrM m z)) (Eq.symm (show nplanS S N l w y e t = S from by unfold nplanS; rw [if_pos (by omega)] <;> rfl))⟩
def lfL (D : PS) (x : Nat) : Nat → PS
  | 0 => D
  | d + 1 => upT (lfL D x d) 53 (8 * x + d) (D 39 d + D 40 d)
noncomputable def ptM (S : PS) : Nat → PS
  | 0 => begS S
  | x + 1 => lfL (gdS (ptM S x) 0 x) x (S 29 0).toNat
theorem lfL_k {D : PS} {x k : Nat} (h : k ≠ 53) : ∀ n, lfL D x n k = D k
  | 0 => rfl
  | n + 1 => by
    funext z
    show upT (lfL D x n) 53 _ _ k z = _
    rw [upT_k h, lfL_k h n]
theorem lfL_53 {D : PS} {x : Nat} : ∀ n z, lfL D x n 53 z = if 8 * x ≤ z ∧ z < 8 * x + n then D 39 (z - 8 * x) + D 40 (z - 8 * x) else D 53 z
  | 0, z => by rw [if_neg (by omega)]; rfl
  | n + 1, z => by
    show upT (lfL D x n) 53 (8 * x + n) _ 53 z = _
    by_cases e : z = 8 * x + n
    · subst e
      rw [upT_self, if_pos (by omega), Nat.add_sub_cancel_left]
    · rw [upT_x e, lfL_53 n z]
      by_cases h : 8 * x ≤ z ∧ z < 8 * x + n
      · rw [if_pos h, if_pos (by omega)]
      · rw [if_neg h, if_neg (by omega)]
/-- as WF, but for the lefts too -/
def WG (S D : PS) : Prop := (∀ k, (k < 39 ∨ 49 < k) → k ≠ 29 → k ≠ 53 → D k = S k) ∧ ∀ x, x ≠ 15 → D 29 x = S 29 x
theorem WF.g {S D : PS} (h : WF S D) : WG S D := ⟨fun k a b _ => h.1 k a b, h.2⟩
theorem WG.tr {S D F : PS} (h : WG S D) (g : WG D F) : WG S F := ⟨fun k h1 h2 h3 => (g.1 k h1 h2 h3).trans (h.1 k h1 h2 h3), fun x hx => (g.2 x hx).trans (h.2 x hx)⟩
theorem lfL_wg {D : PS} {x n : Nat} : WG D (lfL D x n) := ⟨fun k _ _ h => lfL_k h n, fun z _ => by rw [lfL_k (by decide)]⟩
theorem mOK.wg {S D : PS} (h : mOK S) (g : WG S D) : mOK D := by
  unfold mOK
  rw [g.1 31 (by decide) (by decide) (by decide), g.1 33 (by decide) (by decide) (by decide), g.2 0 (by decide), g.2 2 (by decide)]
  exact h
theorem lfL_inv {D : PS} {x : Nat} (h : InvS kM D) : ∀ n, InvS kM (lfL D x n)
  | 0 => h
  | n + 1 => (lfL_inv h n).up (by show True; trivial)
theorem pt_ok {S : PS} (hS : InvS kM S) (hO : mOK S) : ∀ n : Nat, n ≤ 300 → InvS kM (ptM S n) ∧ CM (ptM S n) ((n : Int) - 1).toNat ∧ Z40 (ptM S n) n ∧ WG S (ptM S n)
  | 0, _ => by
    have b0 := md_ok (l := 0) hS hO 0 (by omega)
    exact ⟨b0.1, b0.2.1, b0.2.2.1, b0.2.2.2.g⟩
  | n + 1, h => by
    obtain ⟨i1, i2, i3, i4⟩ := pt_ok hS hO n (by omega)
    obtain ⟨g1, g2, g3, g4⟩ := gdS_ok (l := 0) i1 (hO.wg i4) i2 i3 (by omega)
    refine ⟨lfL_inv g1 _, ?_, ?_, (i4.tr g4.g).tr lfL_wg⟩
    · intro d hd
      show lfL _ _ _ 39 d + lfL _ _ _ 40 d ≤ _
      rw [lfL_k (by decide), lfL_k (by decide), show (((n + 1 : Nat) : Int) - 1).toNat = ((n : Int)).toNat by omega]; exact g2 d hd
    · intro d hd hy
      show lfL _ _ _ 40 d = 0
      have hd' : (d : Int) < lfL (gdS (ptM S n) 0 n) n (S 29 0).toNat 29 0 := hd
      have hy' : ((n + 1 : Nat) : Int) ≤ lfL (gdS (ptM S n) 0 n) n (S 29 0).toNat 31 (8 * d + 1) := hy
      rw [lfL_k (by decide)] at hd' hy' ⊢
      exact g3 d hd' (by omega)
noncomputable def lf0 (S : PS) (x d : Nat) : Int := gdS (ptM S x) 0 x 39 d + gdS (ptM S x) 0 x 40 d
theorem ptM_53 {S : PS} (hS : InvS kM S) (hO : mOK S) : ∀ X : Nat, X ≤ 300 → ∀ x d : Nat, x < X → (d : Int) < S 29 0 → ptM S X 53 (8 * x + d) = lf0 S x d
  | 0, _, x, d, h, _ => by omega
  | X + 1, hX, x, d, h, hd => by
    have q0 : 0 ≤ S 29 0 ∧ S 29 0 ≤ 8 := hS 29 0 rfl
    obtain ⟨i1, i2, i3, i4⟩ := pt_ok hS hO X (by omega)
    obtain ⟨g1, g2, g3, g4⟩ := gdS_ok (l := 0) i1 (hO.wg i4) i2 i3 (by omega)
    show lfL (gdS (ptM S X) 0 X) X (S 29 0).toNat 53 (8 * x + d) = _
    rw [lfL_53]
    by_cases e : x = X
    · subst e
      rw [if_pos (by omega), Nat.add_sub_cancel_left]
      rfl
    · rw [if_neg (by omega), g4.1 53 (by decide) (by decide)]
      exact ptM_53 hS hO X (by omega) x d (by omega) hd
theorem lf0_bd {S : PS} (hS : InvS kM S) (hO : mOK S) {x d : Nat} (hx : x < 300) : 0 ≤ lf0 S x d ∧ lf0 S x d ≤ 4099990000 := by
  obtain ⟨i1, i2, i3, i4⟩ := pt_ok hS hO x (by omega)
  obtain ⟨g1, g2, g3, g4⟩ := gdS_ok (l := 0) i1 (hO.wg i4) i2 i3 (by omega)
  have b1 : 0 ≤ gdS (ptM S x) 0 x 39 d ∧ gdS (ptM S x) 0 x 39 d ≤ 99990000 := g1 39 d rfl
  have b2 : 0 ≤ gdS (ptM S x) 0 x 40 d ∧ gdS (ptM S x) 0 x 40 d ≤ 4000000000 := g1 40 d rfl
  unfold lf0
  omega
def pqE (D : PS) (x : Nat) : Nat → Bool
  | 0 => true
  | d + 1 => pqE D x d && decide (D 53 (8 * x + d) = D 39 d + D 40 d)
theorem pqE_f {D : PS} {x d : Nat} (h : D 53 (8 * x + d) ≠ D 39 d + D 40 d) : ∀ n, d < n → pqE D x n = false
  | 0, h2 => by omega
  | n + 1, h2 => by
    unfold pqE
    by_cases e : d = n
    · subst e; simp [h]
    · rw [pqE_f h n (by omega)]; rfl
noncomputable def pqN (n : Nat) : Nat → Nat → PS → Int × PS
  | 0, _, D => (-4, D)
  | f + 1, x, D => if pqE (gdS D 1 x) x n = true then pqN n f (x + 1) (gdS D 1 x) else (x, gdS D 1 x)
noncomputable def npartsR (S : PS) (N : Nat) : Int := (pqN (S 29 0).toNat N 0 (begS (ptM S N))).1
noncomputable def npartsS (S : PS) (N : Nat) : PS := (pqN (S 29 0).toNat N 0 (begS (ptM S N))).2
set_option maxHeartbeats 4000000 in
set_option maxRecDepth 100000 in
theorem n_parts_d (E : Ev) (m : Mem) (D : PS) (x n : Nat) (hD : InvS kM D) (hn : D 29 0 = n) (hx : x < 300) (h53 : ∀ d, d < n → 0 ≤ D 53 (8 * x + d) ∧ D 53 (8 * x + d) ≤ 4099990000) (Q : Option Value → Hp → Prop) (hF : pqE D x n = false → Q (some (.int (iI (x : Int)))) (hp E (wrM m D))) (hK : pqE D x n = true → T E 9 mX9_parts 114 [some (rf E 29 0 0), some (.int (iI (x : Int))), none] [] (hp E (wrM m D)) Q) : ∀ (k : Nat) (d : Nat), n - d = k → d ≤ n → pqE D x d = true → T E 9 mX9_parts 78 [some (rf E 29 0 0), some (.int (iI (x : Int))), some (.int (iI (d : Int)))] [] (hp E (wrM m D)) Q := by
  have hn8 : 0 ≤ D 29 0 ∧ D 29 0 ≤ 8 := hD 29 0 rfl
  intro k
  induction k using Nat.strongRecOn with
  | ind k ih =>
    intro d hk hdn hE
    refine T.iload_n dX9_parts_78 rfl ?_
    refine T.aload_n dX9_parts_79 rfl ?_
    refine T.gI (z := D 29 0) dX9_parts_80 fo_X9_87 ok29 rfl rfl (wrM_c rfl) ?_
    have q1 : 0 ≤ D 29 0 ∧ D 29 0 ≤ 8 := hD 29 0 rfl
    refine T.icmp_ge 114 dX9_parts_83 (by unfold rg; omega) (by unfold rg; omega) (fun c2 => ?_) (fun c2 => ?_)
    · refine T.fgt (ls' := [some (rf E 29 0 0), some (.int (iI (x : Int))), none]) (by simp [lsw]) ?_
      exact hK (by rw [show n = d from by omega]; exact hE)
    · refine T.aload_n dX9_parts_86 rfl ?_
      refine T.mget (v := rf E 53 0 0) dX9_parts_87 fo_X9_66 ok29 rfl rfl ?_
      refine T.bipush dX9_parts_90 ?_
      refine T.iload_n dX9_parts_92 rfl ?_
      refine T.imul dX9_parts_93 ?_
      refine T.iload_n dX9_parts_94 rfl ?_
      refine T.iadd dX9_parts_95 ?_
      refine T.aL (z := D 53 ((8 * x) + d)) (x := (8 * x) + d) dX9_parts_96 ok53 (fun _ => rfl) (by omega) (by omega) (wrM_c rfl) ?_
      refine T.aload_n dX9_parts_97 rfl ?_
      refine T.iload_n dX9_parts_98 rfl ?_
      refine T.cV1 (As := [.int (iI (d : Int))]) (st := [.long (lI (D 53 ((8 * x) + d)))]) dX9_parts_99 lk_X9_137 (n_leftOf E m D d (by omega)) ok29 rfl rfl (by decide) rfl rfl (Nat.le_of_ble_eq_true rfl) ?_
      have b1 : 0 ≤ D 39 d ∧ D 39 d ≤ 99990000 := hD 39 d rfl
      have b2 : 0 ≤ D 40 d ∧ D 40 d ≤ 4000000000 := hD 40 d rfl
      have b3 := h53 d (by omega)
      refine T.lcmp_eq 108 dX9_parts_102 dX9_parts_103 (by unfold rl; omega) (by unfold rl; omega) (fun c3 => ?_) (fun c3 => ?_)
      · refine T.iinc (ls' := [some (rf E 29 0 0), some (.int (iI (x : Int))), some (.int (iI ((d : Int) + 1)))]) dX9_parts_108 rfl rfl ?_
        refine T.goto 78 dX9_parts_111 ?_
        exact ih (n - (d + 1)) (by omega) (d + 1) rfl (by omega) (by unfold pqE; rw [hE]; simp; omega)
      · refine T.iload_n dX9_parts_106 rfl ?_
        exact T.iret dX9_parts_107 (hF (pqE_f (by omega) n (by omega)))
set_option maxHeartbeats 4000000 in
set_option maxRecDepth 100000 in
theorem n_parts_c (E : Ev) (m : Mem) (S : PS) (n N : Nat) (hS : InvS kM S) (hO : mOK S) (hn : S 29 0 = n) (hN : N = 300) (h53 : ∀ x, x < 300 → ∀ d, d < n → 0 ≤ S 53 (8 * x + d) ∧ S 53 (8 * x + d) ≤ 4099990000) : ∀ (k : Nat) (x : Nat) (D : PS), N - x = k → x ≤ N → D = mdS S 1 x → T E 9 mX9_parts 63 [some (rf E 29 0 0), some (.int (iI (x : Int))), none] [] (hp E (wrM m D)) (fun r' h' => r' = some (.int (iI (pqN n (N - x) x D).1)) ∧ h' = hp E (wrM m (pqN n (N - x) x D).2)) := by
  intro k
  induction k using Nat.strongRecOn with
  | ind k ih =>
    intro x D hk hxN hD
    have i0 := md_ok (l := 1) hS hO x (by omega)
    rw [← hD] at i0
    refine T.iload_n dX9_parts_63 rfl ?_
    refine T.sipush dX9_parts_64 ?_
    refine T.icmp_gt 120 dX9_parts_67 (by unfold rg; omega) (by unfold rg; omega) (fun c1 => ?_) (fun c1 => ?_)
    · refine T.bipush dX9_parts_120 ?_
      rw [show N - x = 0 from by omega]
      exact T.iret dX9_parts_122 ⟨rfl, rfl⟩
    · refine T.aload_n dX9_parts_70 rfl ?_
      refine T.iconst dX9_parts_71 ?_
      refine T.iload_n dX9_parts_72 rfl ?_
      refine T.cV0 (As := [.int (iI 1), .int (iI (x : Int))]) (st := []) dX9_parts_73 lk_X9_183 (n_goDay E m D 1 (x : Int) i0.1 (hO.wf i0.2.2.2) i0.2.1 i0.2.2.1 (by omega) (by omega)) ok29 rfl rfl (by decide) rfl rfl (Nat.le_of_ble_eq_true rfl) ?_
      have g1 := gdS_ok (l := 1) i0.1 (hO.wf i0.2.2.2) i0.2.1 i0.2.2.1 (show 0 ≤ (x : Int) ∧ (x : Int) ≤ 299 by omega)
      refine T.iconst dX9_parts_76 ?_
      refine T.istore_n (ls' := [some (rf E 29 0 0), some (.int (iI (x : Int))), some (.int (iI 0))]) dX9_parts_77 rfl ?_
      have e0 : gdS D 1 (x : Int) 29 0 = S 29 0 := (i0.2.2.2.tr g1.2.2.2).2 0 (by decide)
      have e53 : gdS D 1 (x : Int) 53 = S 53 := (i0.2.2.2.tr g1.2.2.2).1 53 (by decide) (by decide)
      refine n_parts_d E m (gdS D 1 (x : Int)) x n g1.1 (by rw [e0]; exact hn) (by omega) (fun d hd => by rw [e53]; exact h53 x (by omega) d hd) _ (fun hE => ?_) (fun hE => ?_) _ 0 rfl (Nat.zero_le _) rfl
      · rw [show pqN n (N - x) x D = ((x : Int), (gdS D 1 (x : Int))) from by rw [show N - x = (N - (x + 1)) + 1 from by omega]; exact if_neg (by show ¬ (pqE (gdS D 1 (x : Int)) x n = true); rw [hE]; decide)]
        exact ⟨rfl, rfl⟩
      · refine T.iinc (ls' := [some (rf E 29 0 0), some (.int (iI ((x : Int) + 1))), none]) dX9_parts_114 rfl rfl ?_
        refine T.goto 63 dX9_parts_117 ?_
        rw [show pqN n (N - x) x D = pqN n (N - (x + 1)) (x + 1) (gdS D 1 (x : Int)) from by rw [show N - x = (N - (x + 1)) + 1 from by omega]; exact if_pos hE]
        exact ih (N - (x + 1)) (by omega) (x + 1) _ rfl (by omega) (by rw [hD]; rfl)
set_option maxHeartbeats 4000000 in
set_option maxRecDepth 100000 in
theorem n_parts_b (E : Ev) (m : Mem) (D : PS) (x n : Nat) (hD : InvS kM D) (hn : D 29 0 = n) (hx : x < 300) (Q : Option Value → Hp → Prop) (hK : T E 9 mX9_parts 51 [some (rf E 29 0 0), some (.int (iI (x : Int))), none] [] (hp E (wrM m (lfL D x n))) Q) : ∀ (k : Nat) (d : Nat) (F : PS), n - d = k → d ≤ n → F = lfL D x d → T E 9 mX9_parts 21 [some (rf E 29 0 0), some (.int (iI (x : Int))), some (.int (iI (d : Int)))] [] (hp E (wrM m F)) Q := by
  have hn8 : 0 ≤ D 29 0 ∧ D 29 0 ≤ 8 := hD 29 0 rfl
  intro k
  induction k using Nat.strongRecOn with
  | ind k ih =>
    intro d F hk hdn hF
    have e290 : F 29 0 = D 29 0 := by rw [hF, lfL_k (by decide)]
    have qF : 0 ≤ F 29 0 ∧ F 29 0 ≤ 8 := by rw [e290]; exact hn8
    refine T.iload_n dX9_parts_21 rfl ?_
    refine T.aload_n dX9_parts_22 rfl ?_
    refine T.gI (z := F 29 0) dX9_parts_23 fo_X9_87 ok29 rfl rfl (wrM_c rfl) ?_
    refine T.icmp_ge 51 dX9_parts_26 (by unfold rg; omega) (by unfold rg; omega) (fun c1 => ?_) (fun c1 => ?_)
    · refine T.fgt (ls' := [some (rf E 29 0 0), some (.int (iI (x : Int))), none]) (by simp [lsw]) ?_
      rw [show F = lfL D x n from by rw [hF, show d = n from by omega]]
      exact hK
    · refine T.aload_n dX9_parts_29 rfl ?_
      refine T.mget (v := rf E 53 0 0) dX9_parts_30 fo_X9_66 ok29 rfl rfl ?_
      refine T.bipush dX9_parts_33 ?_
      refine T.iload_n dX9_parts_35 rfl ?_
      refine T.imul dX9_parts_36 ?_
      refine T.iload_n dX9_parts_37 rfl ?_
      refine T.iadd dX9_parts_38 ?_
      refine T.aload_n dX9_parts_39 rfl ?_
      refine T.iload_n dX9_parts_40 rfl ?_
      refine T.cV1 (As := [.int (iI (d : Int))]) (st := [.int (iI ((8 * (x : Int)) + (d : Int))), rf E 53 0 0]) dX9_parts_41 lk_X9_137 (by have h0 := n_leftOf E m F d (by omega); rw [hF, lfL_k (by decide), lfL_k (by decide)] at h0; rw [hF]; exact h0) ok29 rfl rfl (by decide) rfl rfl (Nat.le_of_ble_eq_true rfl) ?_
      refine T.nlst (x := (8 * x + d)) dX9_parts_44 rfl ok53 (fun _ => rfl) (by omega) (by omega) ?_
      refine T.iinc (ls' := [some (rf E 29 0 0), some (.int (iI (x : Int))), some (.int (iI ((d : Int) + 1)))]) dX9_parts_45 rfl rfl ?_
      refine T.goto 21 dX9_parts_48 ?_
      exact ih (n - (d + 1)) (by omega) (d + 1) _ rfl (by omega) (by first | rfl | (rw [hF]; rfl))
set_option maxHeartbeats 4000000 in
set_option maxRecDepth 100000 in
theorem n_parts_a (E : Ev) (m : Mem) (S : PS) (N : Nat) (hS : InvS kM S) (hO : mOK S) (hN : N = 300) : ∀ (k : Nat) (x : Nat) (D : PS), N - x = k → x ≤ N → D = ptM S x → T E 9 mX9_parts 6 [some (rf E 29 0 0), some (.int (iI (x : Int))), none] [] (hp E (wrM m D)) (fun r' h' => r' = some (.int (iI (npartsR S N))) ∧ h' = hp E (wrM m (npartsS S N))) := by
  have hn8 : 0 ≤ S 29 0 ∧ S 29 0 ≤ 8 := hS 29 0 rfl
  intro k
  induction k using Nat.strongRecOn with
  | ind k ih =>
    intro x D hk hxN hD
    have i0 := pt_ok hS hO x (by omega)
    rw [← hD] at i0
    refine T.iload_n dX9_parts_6 rfl ?_
    refine T.sipush dX9_parts_7 ?_
    refine T.icmp_gt 57 dX9_parts_10 (by unfold rg; omega) (by unfold rg; omega) (fun c1 => ?_) (fun c1 => ?_)
    · refine T.aload_n dX9_parts_57 rfl ?_
      refine T.cV0 (As := []) (st := []) dX9_parts_58 lk_X9_180 (n_begin E m D) ok29 rfl rfl (by decide) rfl rfl (Nat.le_of_ble_eq_true rfl) ?_
      refine T.iconst dX9_parts_61 ?_
      refine T.istore_n (ls' := [some (rf E 29 0 0), some (.int (iI 0)), none]) dX9_parts_62 rfl ?_
      have hDe : ptM S N = D := by rw [hD, show N = x from by omega]
      unfold npartsR npartsS
      rw [hDe]
      exact n_parts_c E m D (S 29 0).toNat N i0.1 (hO.wg i0.2.2.2) (by rw [i0.2.2.2.2 0 (by decide)]; omega) hN (fun z hz d hd => by rw [hD, ptM_53 hS hO x (by omega) z d (by omega) (by omega)]; exact lf0_bd hS hO hz) _ 0 _ rfl (Nat.zero_le _) rfl
    · refine T.aload_n dX9_parts_13 rfl ?_
      refine T.iconst dX9_parts_14 ?_
      refine T.iload_n dX9_parts_15 rfl ?_
      refine T.cV0 (As := [.int (iI 0), .int (iI (x : Int))]) (st := []) dX9_parts_16 lk_X9_183 (n_goDay E m D 0 (x : Int) i0.1 (hO.wg i0.2.2.2) i0.2.1 i0.2.2.1 (by omega) (by omega)) ok29 rfl rfl (by decide) rfl rfl (Nat.le_of_ble_eq_true rfl) ?_
      have g1 := gdS_ok (l := 0) i0.1 (hO.wg i0.2.2.2) i0.2.1 i0.2.2.1 (show 0 ≤ (x : Int) ∧ (x : Int) ≤ 299 by omega)
      refine T.iconst dX9_parts_19 ?_
      refine T.istore_n (ls' := [some (rf E 29 0 0), some (.int (iI (x : Int))), some (.int (iI 0))]) dX9_parts_20 rfl ?_
      have e0 : gdS D 0 (x : Int) 29 0 = S 29 0 := (i0.2.2.2.tr g1.2.2.2.g).2 0 (by decide)
      refine n_parts_b E m (gdS D 0 (x : Int)) x (S 29 0).toNat g1.1 (by rw [e0]; omega) (by omega) _ ?_ _ 0 _ rfl (Nat.zero_le _) rfl
      refine T.iinc (ls' := [some (rf E 29 0 0), some (.int (iI ((x : Int) + 1))), none]) dX9_parts_51 rfl rfl ?_
      refine T.goto 6 dX9_parts_54 ?_
      exact ih (N - (x + 1)) (by omega) (x + 1) _ rfl (by omega) (by rw [hD]; rfl)
set_option maxHeartbeats 4000000 in
set_option maxRecDepth 100000 in
theorem n_parts (E : Ev) (m : Mem) (S : PS) (N : Nat) (hS : InvS kM S) (hN : N = 300) (hO : mOK S) : CT E 9 mX9_parts [rf E 29 0 0] (hp E (wrM m S)) (some (.int (iI (npartsR S N)))) (hp E (wrM m (npartsS S N))) := by
  refine CT.go okX9_parts (Nat.le_of_ble_eq_true rfl) ?_
  show T E 9 mX9_parts 0 [some (rf E 29 0 0), none, none] [] (hp E (wrM m S)) _
  refine T.aload_n dX9_parts_0 rfl ?_
  refine T.cV0 (As := []) (st := []) dX9_parts_1 lk_X9_180 (n_begin E m S) ok29 rfl rfl (by decide) rfl rfl (Nat.le_of_ble_eq_true rfl) ?_
  refine T.iconst dX9_parts_4 ?_
  refine T.istore_n (ls' := [some (rf E 29 0 0), some (.int (iI 0)), none]) dX9_parts_5 rfl ?_
  exact n_parts_a E m S N hS hO hN _ 0 _ rfl (Nat.zero_le _) rfl
def jdN (D : PS) (s fr : Int) : Nat → Nat → Int
  | 0, _ => -4
  | k + 1, d => if (D 39 d + D 40 d) / 10000 = D 58 (24 * s + fr + (d : Int)).toNat then jdN D s fr k (d + 1) else d
set_option maxHeartbeats 4000000 in
set_option maxRecDepth 100000 in
theorem n_judge_lp (E : Ev) (m : Mem) (D : PS) (s fr : Int) (n : Nat) (hD : InvS kM D) (hn : D 29 0 = n) (hs : 0 ≤ s ∧ s ≤ 3) (hfr : 0 ≤ fr ∧ fr + n ≤ 24) : ∀ (k : Nat) (d : Nat), n - d = k → d ≤ n → T E 9 mX9_judge 57 [some (rf E 29 0 0), none, none, some (.int (iI s)), none, some (.int (iI fr)), none, some (.int (iI (d : Int)))] [] (hp E (wrM m D)) (fun r' h' => r' = some (.int (iI (jdN D s fr (n - d) d))) ∧ h' = hp E (wrM m D)) := by
  have hn8 : 0 ≤ D 29 0 ∧ D 29 0 ≤ 8 := hD 29 0 rfl
  intro k
  induction k using Nat.strongRecOn with
  | ind k ih =>
    intro d hk hdn
    refine T.iload dX9_judge_57 rfl ?_
    refine T.aload_n dX9_judge_59 rfl ?_
    refine T.gI (z := D 29 0) dX9_judge_60 fo_X9_87 ok29 rfl rfl (wrM_c rfl) ?_
    have q1 : 0 ≤ D 29 0 ∧ D 29 0 ≤ 8 := hD 29 0 rfl
    refine T.icmp_ge 105 dX9_judge_63 (by unfold rg; omega) (by unfold rg; omega) (fun c2 => ?_) (fun c2 => ?_)
    · refine T.bipush dX9_judge_105 ?_
      exact T.iret dX9_judge_107 ⟨by rw [show n - d = 0 from by omega]; rfl, rfl⟩
    · refine T.aload_n dX9_judge_66 rfl ?_
      refine T.iload dX9_judge_67 rfl ?_
      refine T.cV1 (As := [.int (iI (d : Int))]) (st := []) dX9_judge_69 lk_X9_137 (n_leftOf E m D d (by omega)) ok29 rfl rfl (by decide) rfl rfl (Nat.le_of_ble_eq_true rfl) ?_
      have b1 : 0 ≤ D 39 d ∧ D 39 d ≤ 99990000 := hD 39 d rfl
      have b2 : 0 ≤ D 40 d ∧ D 40 d ≤ 4000000000 := hD 40 d rfl
      refine T.ldc2 dX9_judge_72 kl_X9_135 ?_
      refine T.ldiv dX9_judge_75 (by unfold rl; omega) (by unfold rl; omega) (by omega) (by omega) ?_
      refine T.aload_n dX9_judge_76 rfl ?_
      refine T.mget (v := rf E 58 0 0) dX9_judge_77 fo_X9_78 ok29 rfl rfl ?_
      refine T.bipush dX9_judge_80 ?_
      refine T.iload_n dX9_judge_82 rfl ?_
      refine T.imul dX9_judge_83 ?_
      refine T.iload dX9_judge_84 rfl ?_
      refine T.iadd dX9_judge_86 ?_
      refine T.iload dX9_judge_87 rfl ?_
      refine T.iadd dX9_judge_89 ?_
      refine T.aI (z := D 58 ((24 * s + fr + (d : Int)).toNat)) (x := (24 * s + fr + (d : Int)).toNat) dX9_judge_90 ok58 (fun _ => rfl) (by omega) (by omega) (wrM_c rfl) ?_
      have q3 : -2147483648 ≤ D 58 ((24 * s + fr + (d : Int)).toNat) ∧ D 58 ((24 * s + fr + (d : Int)).toNat) ≤ 2147483647 := hD 58 ((24 * s + fr + (d : Int)).toNat) rfl
      refine T.i2l dX9_judge_91 (by unfold rg; omega) ?_
      refine T.lcmp_eq 99 dX9_judge_92 dX9_judge_93 (by unfold rl; omega) (by unfold rl; omega) (fun c4 => ?_) (fun c4 => ?_)
      · refine T.iinc (ls' := [some (rf E 29 0 0), none, none, some (.int (iI s)), none, some (.int (iI fr)), none, some (.int (iI ((d : Int) + 1)))]) dX9_judge_99 rfl rfl ?_
        refine T.goto 57 dX9_judge_102 ?_
        have hq : jdN D s fr (n - d) d = jdN D s fr (n - (d + 1)) (d + 1) := by
          rw [show n - d = (n - (d + 1)) + 1 from by omega]
          exact if_pos (by omega)
        rw [hq]
        exact ih (n - (d + 1)) (by omega) (d + 1) rfl (by omega)
      · refine T.iload dX9_judge_96 rfl ?_
        have hq : jdN D s fr (n - d) d = (d : Int) := by
          rw [show n - d = (n - (d + 1)) + 1 from by omega]
          exact if_neg (by omega)
        exact T.iret dX9_judge_98 ⟨by rw [hq], rfl⟩
noncomputable def njudgeR (S : PS) (l y s la fr : Int) : Int := if ¬ ((0 ≤ l ∧ l ≤ 1) ∧ (0 ≤ y ∧ y ≤ 299) ∧ (0 ≤ s ∧ s ≤ 3) ∧ 0 ≤ la ∧ la ≤ 2) then -1 else if lackR S s.toNat la fr (S 29 0) < 0 then lackR S s.toNat la fr (S 29 0) else jdN (mdS S l.toNat (y + 1).toNat) s fr (S 29 0).toNat 0
noncomputable def njudgeS (S : PS) (l y s la fr : Int) : PS := if ¬ ((0 ≤ l ∧ l ≤ 1) ∧ (0 ≤ y ∧ y ≤ 299) ∧ (0 ≤ s ∧ s ≤ 3) ∧ 0 ≤ la ∧ la ≤ 2) then S else if lackR S s.toNat la fr (S 29 0) < 0 then S else (mdS S l.toNat (y + 1).toNat)
set_option maxHeartbeats 4000000 in
set_option maxRecDepth 100000 in
theorem n_judge (E : Ev) (m : Mem) (S : PS) (l y s la fr : Int) (hS : InvS kM S) (hO : mOK S) (h1 : rg l) (h2 : rg y) (h3 : rg s) (h4 : rg la) (h5 : rg fr) : CT E 9 mX9_judge [rf E 29 0 0, .int (iI l), .int (iI y), .int (iI s), .int (iI la), .int (iI fr)] (hp E (wrM m S)) (some (.int (iI (njudgeR S l y s la fr)))) (hp E (wrM m (njudgeS S l y s la fr))) := by
  refine CT.go okX9_judge (Nat.le_of_ble_eq_true rfl) ?_
  show T E 9 mX9_judge 0 [some (rf E 29 0 0), some (.int (iI l)), some (.int (iI y)), some (.int (iI s)), some (.int (iI la)), some (.int (iI fr)), none, none] [] (hp E (wrM m S)) _
  unfold rg at h1 h2 h3 h4 h5
  refine T.iload_n dX9_judge_0 rfl ?_
  refine T.cS1 (As := [.int (iI l)]) (st := []) dX9_judge_1 lk_X9_129 (n_isLaw E _ (by unfold rg; omega)) (by decide) rfl rfl (Nat.le_of_ble_eq_true rfl) ?_
  refine T.ifB_eq 23 dX9_judge_4 (fun c1 => ?_) (fun c1 => ?_)
  · refine T.iconst dX9_judge_23 ?_
    exact T.iret dX9_judge_24 ⟨congrArg (fun z => some (Value.int (iI z))) (Eq.symm (show njudgeR S l y s la fr = (-1) from by unfold njudgeR; rw [if_pos (by omega)] <;> first | rfl | omega)), congrArg (fun z => hp E (wrM m z)) (Eq.symm (show njudgeS S l y s la fr = S from by unfold njudgeS; rw [if_pos (by omega)] <;> rfl))⟩
  · refine T.iload_n dX9_judge_7 rfl ?_
    refine T.cS1 (As := [.int (iI y)]) (st := []) dX9_judge_8 lk_X9_96 (n_isDay E _ (by unfold rg; omega)) (by decide) rfl rfl (Nat.le_of_ble_eq_true rfl) ?_
    refine T.ifB_eq 23 dX9_judge_11 (fun c2 => ?_) (fun c2 => ?_)
    · refine T.iconst dX9_judge_23 ?_
      exact T.iret dX9_judge_24 ⟨congrArg (fun z => some (Value.int (iI z))) (Eq.symm (show njudgeR S l y s la fr = (-1) from by unfold njudgeR; rw [if_pos (by omega)] <;> first | rfl | omega)), congrArg (fun z => hp E (wrM m z)) (Eq.symm (show njudgeS S l y s la fr = S from by unfold njudgeS; rw [if_pos (by omega)] <;> rfl))⟩
    · refine T.iload_n dX9_judge_14 rfl ?_
      refine T.iload dX9_judge_15 rfl ?_
      refine T.cS1 (As := [.int (iI s), .int (iI la)]) (st := []) dX9_judge_17 lk_X9_221 (n_isSheet E _ (by unfold rg; omega) (by unfold rg; omega)) (by decide) rfl rfl (Nat.le_of_ble_eq_true rfl) ?_
      refine T.ifB_ne 25 dX9_judge_20 (fun c3 => ?_) (fun c3 => ?_)
      · refine T.aload_n dX9_judge_25 rfl ?_
        refine T.iload_n dX9_judge_26 rfl ?_
        refine T.iload dX9_judge_27 rfl ?_
        refine T.iload dX9_judge_29 rfl ?_
        refine T.aload_n dX9_judge_31 rfl ?_
        refine T.gI (z := S 29 0) dX9_judge_32 fo_X9_87 ok29 rfl rfl (wrM_c rfl) ?_
        have q4 : 0 ≤ S 29 0 ∧ S 29 0 ≤ 8 := hS 29 0 rfl
        have n80 : 0 ≤ S 29 0 ∧ S 29 0 ≤ 8 := hS 29 0 rfl
        refine T.cV1 (As := [.int (iI s), .int (iI la), .int (iI fr), .int (iI (S 29 0))]) (st := []) dX9_judge_35 lk_X9_224 (n_lacks E m S s la fr (S 29 0) hS (by omega) (by omega) (by unfold rg; omega) (by omega)) ok29 rfl rfl (by decide) rfl rfl (Nat.le_of_ble_eq_true rfl) ?_
        have n5 := lackR_rg S s.toNat la fr (S 29 0)
        refine T.istore (ls' := [some (rf E 29 0 0), some (.int (iI l)), some (.int (iI y)), some (.int (iI s)), some (.int (iI la)), some (.int (iI fr)), some (.int (iI (lackR S s.toNat la fr (S 29 0)))), none]) dX9_judge_38 rfl ?_
        refine T.iload dX9_judge_40 rfl ?_
        refine T.if_ge 48 dX9_judge_42 (by unfold rg; omega) (fun c6 => ?_) (fun c6 => ?_)
        · refine T.aload_n dX9_judge_48 rfl ?_
          refine T.iload_n dX9_judge_49 rfl ?_
          refine T.iload_n dX9_judge_50 rfl ?_
          refine T.cV0 (As := [.int (iI l), .int (iI y)]) (st := []) dX9_judge_51 lk_X9_186 (by have h0 := n_goTo E m S (l).toNat y hS hO (by omega) (by omega); rw [show (((l).toNat : Nat) : Int) = l from by omega] at h0; exact h0) ok29 rfl rfl (by decide) rfl rfl (Nat.le_of_ble_eq_true rfl) ?_
          refine T.iconst dX9_judge_54 ?_
          refine T.istore (ls' := [some (rf E 29 0 0), some (.int (iI l)), some (.int (iI y)), some (.int (iI s)), some (.int (iI la)), some (.int (iI fr)), some (.int (iI (lackR S s.toNat la fr (S 29 0)))), some (.int (iI 0))]) dX9_judge_55 rfl ?_
          refine T.fgt (ls' := [some (rf E 29 0 0), none, none, some (.int (iI s)), none, some (.int (iI fr)), none, some (.int (iI 0))]) (by simp [lsw]) ?_
          have hz := lackR_in (S := S) (s := s.toNat) (la := la) (fr := fr) (n := S 29 0) (by omega)
          have z1 : 0 ≤ S 57 s.toNat ∧ S 57 s.toNat ≤ 24 := hS 57 s.toNat rfl
          have n8 : 0 ≤ S 29 0 ∧ S 29 0 ≤ 8 := hS 29 0 rfl
          have g1 := md_ok (l := l.toNat) hS hO (y + 1).toNat (by omega)
          rw [show njudgeR S l y s la fr = jdN (mdS S l.toNat (y + 1).toNat) s fr (S 29 0).toNat 0 from by unfold njudgeR; rw [if_neg (by omega), if_neg (by omega)], show njudgeS S l y s la fr = (mdS S l.toNat (y + 1).toNat) from by unfold njudgeS; rw [if_neg (by omega), if_neg (by omega)]]
          exact n_judge_lp E m (mdS S l.toNat (y + 1).toNat) s fr (S 29 0).toNat g1.1 (by rw [g1.2.2.2.2 0 (by decide)]; omega) (by omega) (by omega) _ 0 rfl (Nat.zero_le _)
        · refine T.iload dX9_judge_45 rfl ?_
          exact T.iret dX9_judge_47 ⟨congrArg (fun z => some (Value.int (iI z))) (Eq.symm (show njudgeR S l y s la fr = lackR S s.toNat la fr (S 29 0) from by unfold njudgeR; rw [if_neg (by omega), if_pos (by omega)] <;> first | rfl | omega)), congrArg (fun z => hp E (wrM m z)) (Eq.symm (show njudgeS S l y s la fr = S from by unfold njudgeS; rw [if_neg (by omega), if_pos (by omega)] <;> rfl))⟩
      · refine T.iconst dX9_judge_23 ?_
        exact T.iret dX9_judge_24 ⟨congrArg (fun z => some (Value.int (iI z))) (Eq.symm (show njudgeR S l y s la fr = (-1) from by unfold njudgeR; rw [if_pos (by omega)] <;> first | rfl | omega)), congrArg (fun z => hp E (wrM m z)) (Eq.symm (show njudgeS S l y s la fr = S from by unfold njudgeS; rw [if_pos (by omega)] <;> rfl))⟩
def ctM (S : PS) (t : Int) : Nat → Int
  | 0 => 0
  | d + 1 => ctM S t d + (if t = 2 then (if 0 ≤ S 31 (8 * d + 5) then 1 else 0) else S 31 (8 * d + 6))
def ncountR (S : PS) (t : Int) : Int := if ¬ (0 ≤ t ∧ t ≤ 3) then -1 else if t = 0 then S 29 0 else if t = 1 then S 29 2 else ctM S t (S 29 0).toNat
def ncountS (S : PS) (t : Int) : PS := if ¬ (0 ≤ t ∧ t ≤ 3) then S else if t = 0 then S else if t = 1 then S else S
set_option maxHeartbeats 4000000 in
set_option maxRecDepth 100000 in
theorem n_count_lp (E : Ev) (m : Mem) (S : PS) (t : Int) (hS : InvS kM S) (ht : 0 ≤ t ∧ t ≤ 3) (n : Nat) (hn : S 29 0 = n) : ∀ (k : Nat) (d : Nat), n - d = k → d ≤ n → T E 3 mX9_count 18 [some (rf E 29 0 0), some (.int (iI t)), some (.int (iI (ctM S t d))), some (.int (iI (d : Int)))] [] (hp E (wrM m S)) (fun r' h' => r' = some (.int (iI (ncountR S t))) ∧ h' = hp E (wrM m (ncountS S t))) := by
  have hn8 : 0 ≤ S 29 0 ∧ S 29 0 ≤ 8 := hS 29 0 rfl
  intro k
  induction k using Nat.strongRecOn with
  | ind k ih =>
    intro d hk hdn
    refine T.iload_n dX9_count_18 rfl ?_
    refine T.aload_n dX9_count_19 rfl ?_
    refine T.gI (z := S 29 0) dX9_count_20 fo_X9_87 ok29 rfl rfl (wrM_c rfl) ?_
    have q1 : 0 ≤ S 29 0 ∧ S 29 0 ≤ 8 := hS 29 0 rfl
    refine T.icmp_ge 74 dX9_count_23 (by unfold rg; omega) (by unfold rg; omega) (fun c2 => ?_) (fun c2 => ?_)
    · refine T.iload_n dX9_count_74 rfl ?_
      refine T.if_ne 85 dX9_count_75 (by unfold rg; omega) (fun c3 => ?_) (fun c3 => ?_)
      · refine T.iload_n dX9_count_85 rfl ?_
        refine T.iconst dX9_count_86 ?_
        refine T.icmp_ne 97 dX9_count_87 (by unfold rg; omega) (by unfold rg; omega) (fun c4 => ?_) (fun c4 => ?_)
        · refine T.iload_n dX9_count_97 rfl ?_
          exact T.iret dX9_count_98 ⟨by rw [show ncountR S t = ctM S t d from by unfold ncountR; rw [if_neg (by omega), if_neg (by omega), if_neg (by omega)]; rw [show (S 29 0).toNat = d from by omega]], by rw [show ncountS S t = S from by unfold ncountS; rw [if_neg (by omega), if_neg (by omega), if_neg (by omega)]]⟩
        · refine T.aload_n dX9_count_90 rfl ?_
          refine T.gI (z := S 29 2) dX9_count_91 fo_X9_91 ok29 rfl rfl (wrM_c rfl) ?_
          have q5 : 0 ≤ S 29 2 ∧ S 29 2 ≤ 12 := hS 29 2 rfl
          refine T.goto 98 dX9_count_94 ?_
          exact T.iret dX9_count_98 ⟨by rw [show ncountR S t = S 29 2 from by unfold ncountR; rw [if_neg (by omega), if_neg (by omega), if_pos (by omega)]], by rw [show ncountS S t = S from by unfold ncountS; rw [if_neg (by omega), if_neg (by omega), if_pos (by omega)]]⟩
      · refine T.aload_n dX9_count_78 rfl ?_
        refine T.gI (z := S 29 0) dX9_count_79 fo_X9_87 ok29 rfl rfl (wrM_c rfl) ?_
        refine T.goto 98 dX9_count_82 ?_
        exact T.iret dX9_count_98 ⟨by rw [show ncountR S t = S 29 0 from by unfold ncountR; rw [if_neg (by omega), if_pos (by omega)]], by rw [show ncountS S t = S from by unfold ncountS; rw [if_neg (by omega), if_pos (by omega)]]⟩
    · refine T.iload_n dX9_count_26 rfl ?_
      refine T.iload_n dX9_count_27 rfl ?_
      refine T.iconst dX9_count_28 ?_
      refine T.icmp_ne 54 dX9_count_29 (by unfold rg; omega) (by unfold rg; omega) (fun c6 => ?_) (fun c6 => ?_)
      · refine T.aload_n dX9_count_54 rfl ?_
        refine T.mget (v := rf E 31 0 0) dX9_count_55 fo_X9_7 ok29 rfl rfl ?_
        refine T.bipush dX9_count_58 ?_
        refine T.iload_n dX9_count_60 rfl ?_
        refine T.imul dX9_count_61 ?_
        refine T.bipush dX9_count_62 ?_
        refine T.iadd dX9_count_64 ?_
        refine T.aI (z := S 31 ((8 * d) + 6)) (x := (8 * d) + 6) dX9_count_65 ok31 (fun _ => rfl) (by omega) (by omega) (wrM_c rfl) ?_
        have q7 : -1 ≤ S 31 ((8 * d) + 6) ∧ S 31 ((8 * d) + 6) ≤ 9999 := hS 31 ((8 * d) + 6) rfl
        refine T.iadd dX9_count_66 ?_
        refine T.istore_n (ls' := [some (rf E 29 0 0), some (.int (iI t)), some (.int (iI ((ctM S t d) + (S 31 ((8 * d) + 6))))), some (.int (iI (d : Int)))]) dX9_count_67 rfl ?_
        refine T.iinc (ls' := [some (rf E 29 0 0), some (.int (iI t)), some (.int (iI ((ctM S t d) + (S 31 ((8 * d) + 6))))), some (.int (iI ((d : Int) + 1)))]) dX9_count_68 rfl rfl ?_
        refine T.goto 18 dX9_count_71 ?_
        have h0 := ih (n - (d + 1)) (by omega) (d + 1) rfl (by omega)
        rw [show ctM S t (d + 1) = (ctM S t d) + (S 31 ((8 * d) + 6)) from by show ctM S t d + (if t = 2 then (if 0 ≤ S 31 (8 * d + 5) then 1 else 0) else S 31 (8 * d + 6)) = _; rw [if_neg (by omega)]] at h0
        exact h0
      · refine T.aload_n dX9_count_32 rfl ?_
        refine T.mget (v := rf E 31 0 0) dX9_count_33 fo_X9_7 ok29 rfl rfl ?_
        refine T.bipush dX9_count_36 ?_
        refine T.iload_n dX9_count_38 rfl ?_
        refine T.imul dX9_count_39 ?_
        refine T.iconst dX9_count_40 ?_
        refine T.iadd dX9_count_41 ?_
        refine T.aI (z := S 31 ((8 * d) + 5)) (x := (8 * d) + 5) dX9_count_42 ok31 (fun _ => rfl) (by omega) (by omega) (wrM_c rfl) ?_
        have q8 : -1 ≤ S 31 ((8 * d) + 5) ∧ S 31 ((8 * d) + 5) ≤ 9999 := hS 31 ((8 * d) + 5) rfl
        refine T.if_lt 50 dX9_count_43 (by unfold rg; omega) (fun c9 => ?_) (fun c9 => ?_)
        · refine T.iconst dX9_count_50 ?_
          refine T.goto 66 dX9_count_51 ?_
          refine T.iadd dX9_count_66 ?_
          refine T.istore_n (ls' := [some (rf E 29 0 0), some (.int (iI t)), some (.int (iI ((ctM S t d) + 0))), some (.int (iI (d : Int)))]) dX9_count_67 rfl ?_
          refine T.iinc (ls' := [some (rf E 29 0 0), some (.int (iI t)), some (.int (iI ((ctM S t d) + 0))), some (.int (iI ((d : Int) + 1)))]) dX9_count_68 rfl rfl ?_
          refine T.goto 18 dX9_count_71 ?_
          have h0 := ih (n - (d + 1)) (by omega) (d + 1) rfl (by omega)
          rw [show ctM S t (d + 1) = (ctM S t d) + 0 from by show ctM S t d + (if t = 2 then (if 0 ≤ S 31 (8 * d + 5) then 1 else 0) else S 31 (8 * d + 6)) = _; rw [if_pos (by omega), if_neg (by omega)]] at h0
          exact h0
        · refine T.iconst dX9_count_46 ?_
          refine T.goto 66 dX9_count_47 ?_
          refine T.iadd dX9_count_66 ?_
          refine T.istore_n (ls' := [some (rf E 29 0 0), some (.int (iI t)), some (.int (iI ((ctM S t d) + 1))), some (.int (iI (d : Int)))]) dX9_count_67 rfl ?_
          refine T.iinc (ls' := [some (rf E 29 0 0), some (.int (iI t)), some (.int (iI ((ctM S t d) + 1))), some (.int (iI ((d : Int) + 1)))]) dX9_count_68 rfl rfl ?_
          refine T.goto 18 dX9_count_71 ?_
          have h0 := ih (n - (d + 1)) (by omega) (d + 1) rfl (by omega)
          rw [show ctM S t (d + 1) = (ctM S t d) + 1 from by show ctM S t d + (if t = 2 then (if 0 ≤ S 31 (8 * d + 5) then 1 else 0) else S 31 (8 * d + 6)) = _; rw [if_pos (by omega), if_pos (by omega)]] at h0
          exact h0
set_option maxHeartbeats 4000000 in
set_option maxRecDepth 100000 in
theorem n_count (E : Ev) (m : Mem) (S : PS) (t : Int) (hS : InvS kM S) (h1 : rg t) : CT E 3 mX9_count [rf E 29 0 0, .int (iI t)] (hp E (wrM m S)) (some (.int (iI (ncountR S t)))) (hp E (wrM m (ncountS S t))) := by
  refine CT.go okX9_count (Nat.le_of_ble_eq_true rfl) ?_
  show T E 3 mX9_count 0 [some (rf E 29 0 0), some (.int (iI t)), none, none] [] (hp E (wrM m S)) _
  unfold rg at h1
  refine T.iload_n dX9_count_0 rfl ?_
  refine T.i2l dX9_count_1 (by unfold rg; omega) ?_
  refine T.lconst0 dX9_count_2 ?_
  refine T.ldc2 dX9_count_3 kl_X9_116 ?_
  refine T.cS1 (As := [.long (lI t), .long (lI 0), .long (lI 3)]) (st := []) dX9_count_6 lk_X9_83 (n_in E _ (by unfold rl; omega) (by unfold rl; omega) (by unfold rl; omega)) (by decide) rfl rfl (Nat.le_of_ble_eq_true rfl) ?_
  refine T.ifB_ne 14 dX9_count_9 (fun c1 => ?_) (fun c1 => ?_)
  · refine T.iconst dX9_count_14 ?_
    refine T.istore_n (ls' := [some (rf E 29 0 0), some (.int (iI t)), some (.int (iI 0)), none]) dX9_count_15 rfl ?_
    refine T.iconst dX9_count_16 ?_
    refine T.istore_n (ls' := [some (rf E 29 0 0), some (.int (iI t)), some (.int (iI 0)), some (.int (iI 0))]) dX9_count_17 rfl ?_
    have hn8 : 0 ≤ S 29 0 ∧ S 29 0 ≤ 8 := hS 29 0 rfl
    exact n_count_lp E m S t hS (by omega) _ (Int.toNat_of_nonneg hn8.1).symm _ 0 rfl (Nat.zero_le _)
  · refine T.iconst dX9_count_12 ?_
    exact T.iret dX9_count_13 ⟨congrArg (fun z => some (Value.int (iI z))) (Eq.symm (show ncountR S t = (-1) from by unfold ncountR; rw [if_pos (by omega)] <;> first | rfl | omega)), congrArg (fun z => hp E (wrM m z)) (Eq.symm (show ncountS S t = S from by unfold ncountS; rw [if_pos (by omega)] <;> rfl))⟩
