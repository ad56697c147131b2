abbrev pyJ (S : PS) (q : Int) (i : Nat) : Prop := (0 ≤ S 58 (q + 2 * (i : Int)).toNat ∧ S 58 (q + 2 * (i : Int)).toNat ≤ 299) ∧ 1 ≤ S 58 (q + 2 * (i : Int) + 1).toNat ∧ S 58 (q + 2 * (i : Int) + 1).toNat ≤ 9999
def pyM (S : PS) (q : Int) (n : Nat) : Prop := ∀ i, i < n → pyJ S q i
def adN (S : PS) (q : Int) : Nat → PS
  | 0 => S
  | i + 1 => nadd (adN S q i) (S 58 (q + 2 * (i : Int)).toNat) (S 58 (q + 2 * (i : Int) + 1).toNat)
theorem nadd_k {S : PS} {y w : Int} {k : Nat} (h : k ≠ 33 ∧ k ≠ 29) : nadd S y w k = S k := by
  funext x
  unfold nadd
  rw [upT_k h.2, upT_k h.1, upT_k h.1, upT_k h.1, upT_k h.1]
theorem adN_k {S : PS} {q : Int} {k : Nat} (h : k ≠ 33 ∧ k ≠ 29) : ∀ n, adN S q n k = S k
  | 0 => rfl
  | n + 1 => by show nadd (adN S q n) _ _ k = _; rw [nadd_k h, adN_k h n]
theorem adN_n {S : PS} {q : Int} : ∀ n : Nat, adN S q n 29 2 = S 29 2 + n
  | 0 => by simp [adN]
  | n + 1 => by
    show nadd (adN S q n) _ _ 29 2 = _
    unfold nadd
    rw [upT_self, adN_n n]
    omega
theorem nadd_inv {S : PS} {y w : Int} (h : InvS kM S) (hy : 0 ≤ y ∧ y ≤ 299) (hw : 1 ≤ w ∧ w ≤ 9999) (hn : S 29 2 < 12) : InvS kM (nadd S y w) := by
  have h0 : 0 ≤ S 29 2 ∧ S 29 2 ≤ 12 := h 29 2 rfl
  unfold nadd
  exact ((((h.up (by show -1 ≤ _ ∧ _ ≤ (9999 : Int); omega)).up (by show -1 ≤ _ ∧ _ ≤ (9999 : Int); omega)).up (by show -1 ≤ _ ∧ _ ≤ (9999 : Int); omega)).up (by show -1 ≤ _ ∧ _ ≤ (9999 : Int); omega)).up (by show 0 ≤ _ ∧ _ ≤ (12 : Int); omega)
theorem adN_inv {S : PS} {q : Int} {n : Nat} (h : InvS kM S) (hp : pyM S q n) (hn : S 29 2 + n ≤ 12) : ∀ i, i ≤ n → InvS kM (adN S q i)
  | 0, _ => h
  | i + 1, hi => nadd_inv (adN_inv h hp hn i (by omega)) (hp i (by omega)).1 (hp i (by omega)).2 (by rw [adN_n]; omega)
set_option maxHeartbeats 4000000 in
set_option maxRecDepth 100000 in
theorem n_pays_1 (E : Ev) (m : Mem) (S : PS) (q : Int) (n : Nat) (RR : Int) (M2 : PS) (hS : InvS kM S) (hq : 0 ≤ q ∧ q + 2 * n ≤ 96) (hn12 : n ≤ 12) (hE2 : ¬ pyM S q n → some (Value.int (iI (-2))) = some (Value.int (iI RR)) ∧ hp E (wrM m S) = hp E (wrM m M2)) (hK : pyM S q n → T E 4 mX9_pays 114 [some (rf E 29 0 0), none, none, none, some (.int (iI (n : Int))), none, some (.int (iI q)), none] [] (hp E (wrM m S)) (fun r' h' => r' = some (.int (iI RR)) ∧ h' = hp E (wrM m M2))) : ∀ (k : Nat) (i : Nat), n - i = k → i ≤ n → (∀ x, x < i → pyJ S q x) → T E 4 mX9_pays 55 [some (rf E 29 0 0), none, none, none, some (.int (iI (n : Int))), none, some (.int (iI q)), some (.int (iI (i : Int)))] [] (hp E (wrM m S)) (fun r' h' => r' = some (.int (iI RR)) ∧ h' = hp E (wrM m M2)) := by
  intro k
  induction k using Nat.strongRecOn with
  | ind k ih =>
    intro i hk hin hpx
    refine T.iload dX9_pays_55 rfl ?_
    refine T.iload dX9_pays_57 rfl ?_
    refine T.icmp_ge 114 dX9_pays_59 (by unfold rg; omega) (by unfold rg; omega) (fun c1 => ?_) (fun c1 => ?_)
    · refine T.fgt (ls' := [some (rf E 29 0 0), none, none, none, some (.int (iI (n : Int))), none, some (.int (iI q)), none]) (by simp [lsw]) ?_
      exact hK (fun x hx => hpx x (by omega))
    · refine T.aload_n dX9_pays_62 rfl ?_
      refine T.mget (v := rf E 58 0 0) dX9_pays_63 fo_X9_78 ok29 rfl rfl ?_
      refine T.iload dX9_pays_66 rfl ?_
      refine T.iconst dX9_pays_68 ?_
      refine T.iload dX9_pays_69 rfl ?_
      refine T.imul dX9_pays_71 ?_
      refine T.iadd dX9_pays_72 ?_
      refine T.aI (z := S 58 ((q + 2 * (i : Int)).toNat)) (x := (q + 2 * (i : Int)).toNat) dX9_pays_73 ok58 (fun _ => rfl) (by omega) (by omega) (wrM_c rfl) ?_
      have q2 : -2147483648 ≤ S 58 ((q + 2 * (i : Int)).toNat) ∧ S 58 ((q + 2 * (i : Int)).toNat) ≤ 2147483647 := hS 58 ((q + 2 * (i : Int)).toNat) rfl
      refine T.cS1 (As := [.int (iI (S 58 ((q + 2 * (i : Int)).toNat)))]) (st := []) dX9_pays_74 lk_X9_96 (n_isDay E _ (by unfold rg; omega)) (by decide) rfl rfl (Nat.le_of_ble_eq_true rfl) ?_
      refine T.ifB_eq 105 dX9_pays_77 (fun c3 => ?_) (fun c3 => ?_)
      · refine T.bipush dX9_pays_105 ?_
        exact T.iret dX9_pays_107 ⟨(hE2 (fun z => by have := z i (by omega); omega)).1, (hE2 (fun z => by have := z i (by omega); omega)).2⟩
      · refine T.aload_n dX9_pays_80 rfl ?_
        refine T.mget (v := rf E 58 0 0) dX9_pays_81 fo_X9_78 ok29 rfl rfl ?_
        refine T.iload dX9_pays_84 rfl ?_
        refine T.iconst dX9_pays_86 ?_
        refine T.iload dX9_pays_87 rfl ?_
        refine T.imul dX9_pays_89 ?_
        refine T.iadd dX9_pays_90 ?_
        refine T.iconst dX9_pays_91 ?_
        refine T.iadd dX9_pays_92 ?_
        refine T.aI (z := S 58 ((q + 2 * (i : Int) + 1).toNat)) (x := (q + 2 * (i : Int) + 1).toNat) dX9_pays_93 ok58 (fun _ => rfl) (by omega) (by omega) (wrM_c rfl) ?_
        have q4 : -2147483648 ≤ S 58 ((q + 2 * (i : Int) + 1).toNat) ∧ S 58 ((q + 2 * (i : Int) + 1).toNat) ≤ 2147483647 := hS 58 ((q + 2 * (i : Int) + 1).toNat) rfl
        refine T.i2l dX9_pays_94 (by unfold rg; omega) ?_
        refine T.lconst1 dX9_pays_95 ?_
        refine T.ldc2 dX9_pays_96 kl_X9_94 ?_
        refine T.cS1 (As := [.long (lI (S 58 ((q + 2 * (i : Int) + 1).toNat))), .long (lI 1), .long (lI 9999)]) (st := []) dX9_pays_99 lk_X9_83 (n_in E _ (by unfold rl; omega) (by unfold rl; omega) (by unfold rl; omega)) (by decide) rfl rfl (Nat.le_of_ble_eq_true rfl) ?_
        refine T.ifB_ne 108 dX9_pays_102 (fun c5 => ?_) (fun c5 => ?_)
        · refine T.iinc (ls' := [some (rf E 29 0 0), none, none, none, some (.int (iI (n : Int))), none, some (.int (iI q)), some (.int (iI ((i : Int) + 1)))]) dX9_pays_108 rfl rfl ?_
          refine T.goto 55 dX9_pays_111 ?_
          exact ih (n - (i + 1)) (by omega) (i + 1) rfl (by omega) (fun x hx => by by_cases hxi : x = i; (subst hxi; exact ⟨by omega, by omega⟩); exact hpx x (by omega))
        · refine T.bipush dX9_pays_105 ?_
          exact T.iret dX9_pays_107 ⟨(hE2 (fun z => by have := z i (by omega); omega)).1, (hE2 (fun z => by have := z i (by omega); omega)).2⟩
set_option maxHeartbeats 4000000 in
set_option maxRecDepth 100000 in
theorem n_pays_2 (E : Ev) (m : Mem) (S : PS) (q : Int) (n : Nat) (hS : InvS kM S) (hq : 0 ≤ q ∧ q + 2 * n ≤ 96) (hpy : pyM S q n) (hn12 : S 29 2 + n ≤ 12) : ∀ (k : Nat) (i : Nat) (D : PS), n - i = k → i ≤ n → D = adN S q i → T E 4 mX9_pays 132 [some (rf E 29 0 0), none, none, none, some (.int (iI (n : Int))), none, some (.int (iI q)), some (.int (iI (i : Int)))] [] (hp E (wrM m D)) (fun r' h' => r' = some (.int (iI (n : Int))) ∧ h' = hp E (wrM m (adN S q n))) := by
  intro k
  induction k using Nat.strongRecOn with
  | ind k ih =>
    intro i D hk hin hDe
    have e58 : D 58 = S 58 := by rw [hDe, adN_k (by decide)]
    have e13 : D 29 2 = S 29 2 + i := by rw [hDe, adN_n]
    have z0 : 0 ≤ S 29 2 ∧ S 29 2 ≤ 12 := hS 29 2 rfl
    have hD : InvS kM D := by rw [hDe]; exact adN_inv hS hpy hn12 i hin
    refine T.iload dX9_pays_132 rfl ?_
    refine T.iload dX9_pays_134 rfl ?_
    refine T.icmp_ge 175 dX9_pays_136 (by unfold rg; omega) (by unfold rg; omega) (fun c1 => ?_) (fun c1 => ?_)
    · refine T.iload dX9_pays_175 rfl ?_
      obtain rfl : i = n := by omega
      exact T.iret dX9_pays_177 ⟨rfl, by rw [hDe]⟩
    · refine T.aload_n dX9_pays_139 rfl ?_
      refine T.aload_n dX9_pays_140 rfl ?_
      refine T.mget (v := rf E 58 0 0) dX9_pays_141 fo_X9_78 ok29 rfl rfl ?_
      refine T.iload dX9_pays_144 rfl ?_
      refine T.iconst dX9_pays_146 ?_
      refine T.iload dX9_pays_147 rfl ?_
      refine T.imul dX9_pays_149 ?_
      refine T.iadd dX9_pays_150 ?_
      refine T.aI (z := D 58 ((q + 2 * (i : Int)).toNat)) (x := (q + 2 * (i : Int)).toNat) dX9_pays_151 ok58 (fun _ => rfl) (by omega) (by omega) (wrM_c rfl) ?_
      refine T.aload_n dX9_pays_152 rfl ?_
      refine T.mget (v := rf E 58 0 0) dX9_pays_153 fo_X9_78 ok29 rfl rfl ?_
      refine T.iload dX9_pays_156 rfl ?_
      refine T.iconst dX9_pays_158 ?_
      refine T.iload dX9_pays_159 rfl ?_
      refine T.imul dX9_pays_161 ?_
      refine T.iadd dX9_pays_162 ?_
      refine T.iconst dX9_pays_163 ?_
      refine T.iadd dX9_pays_164 ?_
      refine T.aI (z := D 58 ((q + 2 * (i : Int) + 1).toNat)) (x := (q + 2 * (i : Int) + 1).toNat) dX9_pays_165 ok58 (fun _ => rfl) (by omega) (by omega) (wrM_c rfl) ?_
      refine T.cV0 (As := [.int (iI (D 58 ((q + 2 * (i : Int)).toNat))), .int (iI (D 58 ((q + 2 * (i : Int) + 1).toNat)))]) (st := []) dX9_pays_166 lk_X9_109 (by rw [e58]; exact n_addPay E m D (S 58 (q + 2 * (i : Int)).toNat) (S 58 (q + 2 * (i : Int) + 1).toNat) hD (by omega)) ok29 rfl rfl (by decide) rfl rfl (Nat.le_of_ble_eq_true rfl) ?_
      refine T.iinc (ls' := [some (rf E 29 0 0), none, none, none, some (.int (iI (n : Int))), none, some (.int (iI q)), some (.int (iI ((i : Int) + 1)))]) dX9_pays_169 rfl rfl ?_
      refine T.goto 132 dX9_pays_172 ?_
      exact ih (n - (i + 1)) (by omega) (i + 1) _ rfl (by omega) (by rw [hDe]; rfl)
noncomputable def npaysR (S : PS) (s la fr n : Int) : Int := if ¬ (((0 ≤ s ∧ s ≤ 3) ∧ 0 ≤ la ∧ la ≤ 2) ∧ (0 ≤ n ∧ n ≤ 12)) then -1 else if lackR S s.toNat la fr (2 * n) < 0 then lackR S s.toNat la fr (2 * n) else @ite _ (pyM S (24 * s + fr) n.toNat) (Classical.propDecidable _) (if 12 < S 29 2 + n then -3 else n) (-2)
noncomputable def npaysS (S : PS) (s la fr n : Int) : PS := if ¬ (((0 ≤ s ∧ s ≤ 3) ∧ 0 ≤ la ∧ la ≤ 2) ∧ (0 ≤ n ∧ n ≤ 12)) then S else if lackR S s.toNat la fr (2 * n) < 0 then S else @ite _ (pyM S (24 * s + fr) n.toNat) (Classical.propDecidable _) (if 12 < S 29 2 + n then S else adN S (24 * s + fr) n.toNat) S
set_option maxHeartbeats 4000000 in
set_option maxRecDepth 100000 in
theorem n_pays_114 (E : Ev) (m : Mem) (S : PS) (s la fr n : Int) (hS : InvS kM S) (hs : 0 ≤ s ∧ s ≤ 3) (hla : 0 ≤ la ∧ la ≤ 2) (hn : 0 ≤ n ∧ n ≤ 12) (hfr : 0 ≤ fr) (hfn : fr + 2 * n ≤ 24) (hrf : ¬ lackR S s.toNat la fr (2 * n) < 0) (z : pyM S (24 * s + fr) n.toNat) : T E 4 mX9_pays 114 [some (rf E 29 0 0), none, none, none, some (.int (iI ((n.toNat : Nat) : Int))), none, some (.int (iI (24 * s + fr))), none] [] (hp E (wrM m S)) (fun r' h' => r' = some (.int (iI (npaysR S s la fr n))) ∧ h' = hp E (wrM m (npaysS S s la fr n))) := by
  refine T.aload_n dX9_pays_114 rfl ?_
  refine T.gI (z := S 29 2) dX9_pays_115 fo_X9_91 ok29 rfl rfl (wrM_c rfl) ?_
  have q1 : 0 ≤ S 29 2 ∧ S 29 2 ≤ 12 := hS 29 2 rfl
  refine T.iload dX9_pays_118 rfl ?_
  refine T.iadd dX9_pays_120 ?_
  refine T.bipush dX9_pays_121 ?_
  refine T.icmp_le 129 dX9_pays_123 (by unfold rg; omega) (by unfold rg; omega) (fun c2 => ?_) (fun c2 => ?_)
  · refine T.iconst dX9_pays_129 ?_
    refine T.istore (ls' := [some (rf E 29 0 0), none, none, none, some (.int (iI ((n.toNat : Nat) : Int))), none, some (.int (iI (24 * s + fr))), some (.int (iI 0))]) dX9_pays_130 rfl ?_
    unfold npaysR npaysS
    rw [if_neg (by omega), if_neg (by omega), if_pos z, if_neg (by omega), if_neg (by omega), if_neg (by omega), if_pos z, if_neg (by omega)]
    have h0 := n_pays_2 E m S (24 * s + fr) n.toNat hS (by omega) z (by omega) _ 0 S rfl (Nat.zero_le _) rfl
    rw [show ((n.toNat : Nat) : Int) = n from by omega] at h0 ⊢
    exact h0
  · refine T.bipush dX9_pays_126 ?_
    unfold npaysR npaysS
    rw [if_neg (by omega), if_neg (by omega), if_pos z, if_pos (by omega), if_neg (by omega), if_neg (by omega), if_pos z, if_pos (by omega)]
    exact T.iret dX9_pays_128 ⟨rfl, rfl⟩
set_option maxHeartbeats 4000000 in
set_option maxRecDepth 100000 in
theorem n_pays (E : Ev) (m : Mem) (S : PS) (s la fr n : Int) (hS : InvS kM S) (h1 : rg s) (h2 : rg la) (h3 : rg fr) (h4 : rg n) : CT E 4 mX9_pays [rf E 29 0 0, .int (iI s), .int (iI la), .int (iI fr), .int (iI n)] (hp E (wrM m S)) (some (.int (iI (npaysR S s la fr n)))) (hp E (wrM m (npaysS S s la fr n))) := by
  refine CT.go okX9_pays (Nat.le_of_ble_eq_true rfl) ?_
  show T E 4 mX9_pays 0 [some (rf E 29 0 0), some (.int (iI s)), some (.int (iI la)), some (.int (iI fr)), some (.int (iI n)), none, none, none] [] (hp E (wrM m S)) _
  unfold rg at h1 h2 h3 h4
  refine T.iload_n dX9_pays_0 rfl ?_
  refine T.iload_n dX9_pays_1 rfl ?_
  refine T.cS1 (As := [.int (iI s), .int (iI la)]) (st := []) dX9_pays_2 lk_X9_221 (n_isSheet E _ (by unfold rg; omega) (by unfold rg; omega)) (by decide) rfl rfl (Nat.le_of_ble_eq_true rfl) ?_
  refine T.ifB_eq 21 dX9_pays_5 (fun c1 => ?_) (fun c1 => ?_)
  · refine T.iconst dX9_pays_21 ?_
    exact T.iret dX9_pays_22 ⟨congrArg (fun z => some (Value.int (iI z))) (Eq.symm (show npaysR S s la fr n = (-1) from by unfold npaysR; rw [if_pos (by omega)])), congrArg (fun z => hp E (wrM m z)) (Eq.symm (show npaysS S s la fr n = S from by unfold npaysS; rw [if_pos (by omega)]))⟩
  · refine T.iload dX9_pays_8 rfl ?_
    refine T.i2l dX9_pays_10 (by unfold rg; omega) ?_
    refine T.lconst0 dX9_pays_11 ?_
    refine T.ldc2 dX9_pays_12 kl_X9_227 ?_
    refine T.cS1 (As := [.long (lI n), .long (lI 0), .long (lI 12)]) (st := []) dX9_pays_15 lk_X9_83 (n_in E _ (by unfold rl; omega) (by unfold rl; omega) (by unfold rl; omega)) (by decide) rfl rfl (Nat.le_of_ble_eq_true rfl) ?_
    refine T.ifB_ne 23 dX9_pays_18 (fun c2 => ?_) (fun c2 => ?_)
    · refine T.aload_n dX9_pays_23 rfl ?_
      refine T.iload_n dX9_pays_24 rfl ?_
      refine T.iload_n dX9_pays_25 rfl ?_
      refine T.iload_n dX9_pays_26 rfl ?_
      refine T.iconst dX9_pays_27 ?_
      refine T.iload dX9_pays_28 rfl ?_
      refine T.imul dX9_pays_30 ?_
      refine T.cV1 (As := [.int (iI s), .int (iI la), .int (iI fr), .int (iI (2 * n))]) (st := []) dX9_pays_31 lk_X9_224 (n_lacks E m S s la fr (2 * n) hS (by omega) (by omega) (by unfold rg; omega) (by omega)) ok29 rfl rfl (by decide) rfl rfl (Nat.le_of_ble_eq_true rfl) ?_
      have n3 := lackR_rg S s.toNat la fr (2 * n)
      refine T.istore (ls' := [some (rf E 29 0 0), some (.int (iI s)), some (.int (iI la)), some (.int (iI fr)), some (.int (iI n)), some (.int (iI (lackR S s.toNat la fr (2 * n)))), none, none]) dX9_pays_34 rfl ?_
      refine T.iload dX9_pays_36 rfl ?_
      refine T.if_ge 44 dX9_pays_38 (by unfold rg; omega) (fun c4 => ?_) (fun c4 => ?_)
      · refine T.bipush dX9_pays_44 ?_
        refine T.iload_n dX9_pays_46 rfl ?_
        refine T.imul dX9_pays_47 ?_
        refine T.iload_n dX9_pays_48 rfl ?_
        refine T.iadd dX9_pays_49 ?_
        refine T.istore (ls' := [some (rf E 29 0 0), some (.int (iI s)), some (.int (iI la)), some (.int (iI fr)), some (.int (iI n)), some (.int (iI (lackR S s.toNat la fr (2 * n)))), some (.int (iI ((24 * s) + fr))), none]) dX9_pays_50 rfl ?_
        refine T.iconst dX9_pays_52 ?_
        refine T.istore (ls' := [some (rf E 29 0 0), some (.int (iI s)), some (.int (iI la)), some (.int (iI fr)), some (.int (iI n)), some (.int (iI (lackR S s.toNat la fr (2 * n)))), some (.int (iI ((24 * s) + fr))), some (.int (iI 0))]) dX9_pays_53 rfl ?_
        refine T.fgt (ls' := [some (rf E 29 0 0), none, none, none, some (.int (iI n)), none, some (.int (iI ((24 * s) + fr))), some (.int (iI 0))]) (by simp [lsw]) ?_
        have hz := lackR_in (S := S) (s := s.toNat) (la := la) (fr := fr) (n := 2 * n) (by omega)
        have z1 : 0 ≤ S 57 s.toNat ∧ S 57 s.toNat ≤ 24 := hS 57 s.toNat rfl
        have h0 := n_pays_1 E m S (24 * s + fr) n.toNat (npaysR S s la fr n) (npaysS S s la fr n) hS (by omega) (by omega) (fun z => ?_) (fun z => ?_) _ 0 rfl (Nat.zero_le _) (fun x hx => by omega)
        · rw [show ((n.toNat : Nat) : Int) = n from by omega] at h0
          exact h0
        · unfold npaysR npaysS
          rw [if_neg (by omega), if_neg (by omega), if_neg z, if_neg (by omega), if_neg (by omega), if_neg z]
          exact ⟨rfl, rfl⟩
        · exact n_pays_114 E m S s la fr n hS (by omega) (by omega) (by omega) (by omega) (by omega) (by omega) z
      · refine T.iload dX9_pays_41 rfl ?_
        exact T.iret dX9_pays_43 ⟨congrArg (fun z => some (Value.int (iI z))) (Eq.symm (show npaysR S s la fr n = lackR S s.toNat la fr (2 * n) from by unfold npaysR; rw [if_neg (by omega), if_pos (by omega)])), congrArg (fun z => hp E (wrM m z)) (Eq.symm (show npaysS S s la fr n = S from by unfold npaysS; rw [if_neg (by omega), if_pos (by omega)]))⟩
    · refine T.iconst dX9_pays_21 ?_
      exact T.iret dX9_pays_22 ⟨congrArg (fun z => some (Value.int (iI z))) (Eq.symm (show npaysR S s la fr n = (-1) from by unfold npaysR; rw [if_pos (by omega)])), congrArg (fun z => hp E (wrM m z)) (Eq.symm (show npaysS S s la fr n = S from by unfold npaysS; rw [if_pos (by omega)]))⟩
def cy0 (k q : Nat) (S : PS) : Nat → PS
  | 0 => S
  | i + 1 => upT (upT (cy0 k q S i) 55 (q + i) (cy0 k q S i k i)) k i (cy0 k q S i k i)
def cy1 (k q : Nat) (S : PS) : Nat → PS
  | 0 => S
  | i + 1 => upT (upT (cy1 k q S i) 55 (q + i) (cy1 k q S i 55 (q + i))) k i (cy1 k q S i 55 (q + i))
def cyT0 (D : PS) : PS := upT (upT (upT (upT (upT (upT (upT (upT D 55 136 (D 29 0)) 29 0 (D 29 0)) 55 137 (D 29 2)) 29 2 (D 29 2)) 55 138 (D 37 0)) 37 0 (D 37 0)) 55 139 (D 37 1)) 37 1 (D 37 1)
def cyT1 (D : PS) : PS := upT (upT (upT (upT (upT (upT (upT (upT D 55 136 (D 55 136)) 29 0 (D 55 136)) 55 137 (D 55 137)) 29 2 (D 55 137)) 55 138 (D 55 138)) 37 0 (D 55 138)) 55 139 (D 55 139)) 37 1 (D 55 139)
def cyS0 (S : PS) : PS := cyT0 (cy0 36 112 (cy0 33 64 (cy0 31 0 S 64) 48) 24)
def cyS1 (S : PS) : PS := cyT1 (cy1 36 112 (cy1 33 64 (cy1 31 0 S 64) 48) 24)
set_option maxHeartbeats 4000000 in
set_option maxRecDepth 100000 in
theorem n_cyT0 (E : Ev) (m : Mem) (D : PS) : T E 1 mX9_carry 164 [some (rf E 29 0 0), some (.int (iI 0)), some (.int (iI 136)), none] [] (hp E (wrM m D)) (fun r' h' => r' = none ∧ h' = hp E (wrM m (cyT0 D))) := by
  refine T.aload_n dX9_carry_164 rfl ?_
  refine T.mget (v := rf E 55 0 0) dX9_carry_165 fo_X9_69 ok29 rfl rfl ?_
  refine T.iload_n dX9_carry_168 rfl ?_
  refine T.iload_n dX9_carry_169 rfl ?_
  refine T.if_eq 182 dX9_carry_170 (by unfold rg; omega) (fun c1 => ?_) (fun c1 => ?_)
  · refine T.aload_n dX9_carry_182 rfl ?_
    refine T.gI (z := D 29 0) dX9_carry_183 fo_X9_87 ok29 rfl rfl (wrM_c rfl) ?_
    refine T.nist (x := 136) dX9_carry_186 rfl ok55 (fun _ => rfl) rfl (by decide) ?_
    refine T.aload_n dX9_carry_187 rfl ?_
    refine T.aload_n dX9_carry_188 rfl ?_
    refine T.mget (v := rf E 55 0 0) dX9_carry_189 fo_X9_69 ok29 rfl rfl ?_
    refine T.iload_n dX9_carry_192 rfl ?_
    refine T.aI (z := D 29 0) (x := 136) dX9_carry_193 ok55 (fun _ => rfl) rfl (by decide) ((wrM_c rfl).trans (by simp [upT])) ?_
    refine T.nputI dX9_carry_194 fp_X9_87 rfl ok29 rfl rfl (Nat.le_of_ble_eq_true rfl) ?_
    refine T.aload_n dX9_carry_197 rfl ?_
    refine T.mget (v := rf E 55 0 0) dX9_carry_198 fo_X9_69 ok29 rfl rfl ?_
    refine T.iload_n dX9_carry_201 rfl ?_
    refine T.iconst dX9_carry_202 ?_
    refine T.iadd dX9_carry_203 ?_
    refine T.iload_n dX9_carry_204 rfl ?_
    refine T.if_eq 219 dX9_carry_205 (by unfold rg; omega) (fun c2 => ?_) (fun c2 => ?_)
    · refine T.aload_n dX9_carry_219 rfl ?_
      refine T.gI (z := D 29 2) dX9_carry_220 fo_X9_91 ok29 rfl rfl ((wrM_c rfl).trans (by simp [upT])) ?_
      refine T.nist (x := 136 + 1) dX9_carry_223 rfl ok55 (fun _ => rfl) (by omega) (by omega) ?_
      refine T.aload_n dX9_carry_224 rfl ?_
      refine T.aload_n dX9_carry_225 rfl ?_
      refine T.mget (v := rf E 55 0 0) dX9_carry_226 fo_X9_69 ok29 rfl rfl ?_
      refine T.iload_n dX9_carry_229 rfl ?_
      refine T.iconst dX9_carry_230 ?_
      refine T.iadd dX9_carry_231 ?_
      refine T.aI (z := D 29 2) (x := 136 + 1) dX9_carry_232 ok55 (fun _ => rfl) (by omega) (by omega) ((wrM_c rfl).trans (by simp [upT])) ?_
      refine T.nputI dX9_carry_233 fp_X9_91 rfl ok29 rfl rfl (Nat.le_of_ble_eq_true rfl) ?_
      refine T.aload_n dX9_carry_236 rfl ?_
      refine T.mget (v := rf E 55 0 0) dX9_carry_237 fo_X9_69 ok29 rfl rfl ?_
      refine T.iload_n dX9_carry_240 rfl ?_
      refine T.iconst dX9_carry_241 ?_
      refine T.iadd dX9_carry_242 ?_
      refine T.iload_n dX9_carry_243 rfl ?_
      refine T.if_eq 258 dX9_carry_244 (by unfold rg; omega) (fun c3 => ?_) (fun c3 => ?_)
      · refine T.aload_n dX9_carry_258 rfl ?_
        refine T.mget (v := rf E 37 0 0) dX9_carry_259 fo_X9_22 ok29 rfl rfl ?_
        refine T.iconst dX9_carry_262 ?_
        refine T.aI (z := D 37 0) (x := 0) dX9_carry_263 ok37 (fun _ => rfl) rfl (by decide) ((wrM_c rfl).trans (by simp [upT])) ?_
        refine T.nist (x := 136 + 2) dX9_carry_264 rfl ok55 (fun _ => rfl) (by omega) (by omega) ?_
        refine T.aload_n dX9_carry_265 rfl ?_
        refine T.mget (v := rf E 37 0 0) dX9_carry_266 fo_X9_22 ok29 rfl rfl ?_
        refine T.iconst dX9_carry_269 ?_
        refine T.aload_n dX9_carry_270 rfl ?_
        refine T.mget (v := rf E 55 0 0) dX9_carry_271 fo_X9_69 ok29 rfl rfl ?_
        refine T.iload_n dX9_carry_274 rfl ?_
        refine T.iconst dX9_carry_275 ?_
        refine T.iadd dX9_carry_276 ?_
        refine T.aI (z := D 37 0) (x := 136 + 2) dX9_carry_277 ok55 (fun _ => rfl) (by omega) (by omega) ((wrM_c rfl).trans (by simp [upT])) ?_
        refine T.nist (x := 0) dX9_carry_278 rfl ok37 (fun _ => rfl) rfl (by decide) ?_
        refine T.aload_n dX9_carry_279 rfl ?_
        refine T.mget (v := rf E 55 0 0) dX9_carry_280 fo_X9_69 ok29 rfl rfl ?_
        refine T.iload_n dX9_carry_283 rfl ?_
        refine T.iconst dX9_carry_284 ?_
        refine T.iadd dX9_carry_285 ?_
        refine T.iload_n dX9_carry_286 rfl ?_
        refine T.if_eq 301 dX9_carry_287 (by unfold rg; omega) (fun c4 => ?_) (fun c4 => ?_)
        · refine T.aload_n dX9_carry_301 rfl ?_
          refine T.mget (v := rf E 37 0 0) dX9_carry_302 fo_X9_22 ok29 rfl rfl ?_
          refine T.iconst dX9_carry_305 ?_
          refine T.aI (z := D 37 1) (x := 1) dX9_carry_306 ok37 (fun _ => rfl) rfl (by decide) ((wrM_c rfl).trans (by simp [upT])) ?_
          refine T.nist (x := 136 + 3) dX9_carry_307 rfl ok55 (fun _ => rfl) (by omega) (by omega) ?_
          refine T.aload_n dX9_carry_308 rfl ?_
          refine T.mget (v := rf E 37 0 0) dX9_carry_309 fo_X9_22 ok29 rfl rfl ?_
          refine T.iconst dX9_carry_312 ?_
          refine T.aload_n dX9_carry_313 rfl ?_
          refine T.mget (v := rf E 55 0 0) dX9_carry_314 fo_X9_69 ok29 rfl rfl ?_
          refine T.iload_n dX9_carry_317 rfl ?_
          refine T.iconst dX9_carry_318 ?_
          refine T.iadd dX9_carry_319 ?_
          refine T.aI (z := D 37 1) (x := 136 + 3) dX9_carry_320 ok55 (fun _ => rfl) (by omega) (by omega) ((wrM_c rfl).trans (by simp [upT])) ?_
          refine T.nist (x := 1) dX9_carry_321 rfl ok37 (fun _ => rfl) rfl (by decide) ?_
          exact T.vret dX9_carry_322 ⟨rfl, rfl⟩
        · exact absurd c4 (by omega)
      · exact absurd c3 (by omega)
    · exact absurd c2 (by omega)
  · exact absurd c1 (by omega)
set_option maxHeartbeats 4000000 in
set_option maxRecDepth 100000 in
theorem n_cy0_c (E : Ev) (m : Mem) (S : PS) : ∀ (k : Nat) (i : Nat) (D : PS), 24 - i = k → i ≤ 24 → D = cy0 36 112 S i → T E 1 mX9_carry 112 [some (rf E 29 0 0), some (.int (iI 0)), some (.int (iI ((112 + i : Nat) : Int))), some (.int (iI (i : Int)))] [] (hp E (wrM m D)) (fun r' h' => r' = none ∧ h' = hp E (wrM m (cyT0 (cy0 36 112 S 24)))) := by
  intro k
  induction k using Nat.strongRecOn with
  | ind k ih =>
    intro i D hk hi hD
    refine T.iload_n dX9_carry_112 rfl ?_
    refine T.bipush dX9_carry_113 ?_
    refine T.icmp_ge 164 dX9_carry_115 (by unfold rg; omega) (by unfold rg; omega) (fun c1 => ?_) (fun c1 => ?_)
    · refine T.fgt (ls' := [some (rf E 29 0 0), some (.int (iI 0)), some (.int (iI ((112 + i : Nat) : Int))), none]) (by simp [lsw]) ?_
      obtain rfl : i = 24 := by omega
      rw [hD]
      exact n_cyT0 E m _
    · refine T.aload_n dX9_carry_118 rfl ?_
      refine T.mget (v := rf E 55 0 0) dX9_carry_119 fo_X9_69 ok29 rfl rfl ?_
      refine T.iload_n dX9_carry_122 rfl ?_
      refine T.iload_n dX9_carry_123 rfl ?_
      refine T.if_eq 136 dX9_carry_124 (by unfold rg; omega) (fun c2 => ?_) (fun c2 => ?_)
      · refine T.aload_n dX9_carry_136 rfl ?_
        refine T.mget (v := rf E 36 0 0) dX9_carry_137 fo_X9_19 ok29 rfl rfl ?_
        refine T.iload_n dX9_carry_140 rfl ?_
        refine T.aI (z := D 36 i) (x := i) dX9_carry_141 ok36 (fun _ => rfl) rfl (by omega) (wrM_c rfl) ?_
        refine T.nist (x := (112 + i)) dX9_carry_142 rfl ok55 (fun _ => rfl) (by omega) (by omega) ?_
        refine T.aload_n dX9_carry_143 rfl ?_
        refine T.mget (v := rf E 36 0 0) dX9_carry_144 fo_X9_19 ok29 rfl rfl ?_
        refine T.iload_n dX9_carry_147 rfl ?_
        refine T.aload_n dX9_carry_148 rfl ?_
        refine T.mget (v := rf E 55 0 0) dX9_carry_149 fo_X9_69 ok29 rfl rfl ?_
        refine T.iload_n dX9_carry_152 rfl ?_
        refine T.aI (z := D 36 i) (x := (112 + i)) dX9_carry_153 ok55 (fun _ => rfl) (by omega) (by omega) ((wrM_c rfl).trans (by simp [upT])) ?_
        refine T.nist (x := i) dX9_carry_154 rfl ok36 (fun _ => rfl) rfl (by omega) ?_
        refine T.iinc (ls' := [some (rf E 29 0 0), some (.int (iI 0)), some (.int (iI (((112 + i : Nat) : Int) + 1))), some (.int (iI (i : Int)))]) dX9_carry_155 rfl rfl ?_
        refine T.iinc (ls' := [some (rf E 29 0 0), some (.int (iI 0)), some (.int (iI (((112 + i : Nat) : Int) + 1))), some (.int (iI ((i : Int) + 1)))]) dX9_carry_158 rfl rfl ?_
        refine T.goto 112 dX9_carry_161 ?_
        exact ih (24 - (i + 1)) (by omega) (i + 1) _ rfl (by omega) (by rw [hD]; rfl)
      · exact absurd c2 (by omega)
set_option maxHeartbeats 4000000 in
set_option maxRecDepth 100000 in
theorem n_cy0_b (E : Ev) (m : Mem) (S : PS) : ∀ (k : Nat) (i : Nat) (D : PS), 48 - i = k → i ≤ 48 → D = cy0 33 64 S i → T E 1 mX9_carry 58 [some (rf E 29 0 0), some (.int (iI 0)), some (.int (iI ((64 + i : Nat) : Int))), some (.int (iI (i : Int)))] [] (hp E (wrM m D)) (fun r' h' => r' = none ∧ h' = hp E (wrM m (cyT0 (cy0 36 112 (cy0 33 64 S 48) 24)))) := by
  intro k
  induction k using Nat.strongRecOn with
  | ind k ih =>
    intro i D hk hi hD
    refine T.iload_n dX9_carry_58 rfl ?_
    refine T.bipush dX9_carry_59 ?_
    refine T.icmp_ge 110 dX9_carry_61 (by unfold rg; omega) (by unfold rg; omega) (fun c1 => ?_) (fun c1 => ?_)
    · refine T.iconst dX9_carry_110 ?_
      refine T.istore_n (ls' := [some (rf E 29 0 0), some (.int (iI 0)), some (.int (iI ((64 + i : Nat) : Int))), some (.int (iI 0))]) dX9_carry_111 rfl ?_
      obtain rfl : i = 48 := by omega
      rw [hD]
      exact n_cy0_c E m _ _ 0 _ rfl (Nat.zero_le _) rfl
    · refine T.aload_n dX9_carry_64 rfl ?_
      refine T.mget (v := rf E 55 0 0) dX9_carry_65 fo_X9_69 ok29 rfl rfl ?_
      refine T.iload_n dX9_carry_68 rfl ?_
      refine T.iload_n dX9_carry_69 rfl ?_
      refine T.if_eq 82 dX9_carry_70 (by unfold rg; omega) (fun c2 => ?_) (fun c2 => ?_)
      · refine T.aload_n dX9_carry_82 rfl ?_
        refine T.mget (v := rf E 33 0 0) dX9_carry_83 fo_X9_13 ok29 rfl rfl ?_
        refine T.iload_n dX9_carry_86 rfl ?_
        refine T.aI (z := D 33 i) (x := i) dX9_carry_87 ok33 (fun _ => rfl) rfl (by omega) (wrM_c rfl) ?_
        refine T.nist (x := (64 + i)) dX9_carry_88 rfl ok55 (fun _ => rfl) (by omega) (by omega) ?_
        refine T.aload_n dX9_carry_89 rfl ?_
        refine T.mget (v := rf E 33 0 0) dX9_carry_90 fo_X9_13 ok29 rfl rfl ?_
        refine T.iload_n dX9_carry_93 rfl ?_
        refine T.aload_n dX9_carry_94 rfl ?_
        refine T.mget (v := rf E 55 0 0) dX9_carry_95 fo_X9_69 ok29 rfl rfl ?_
        refine T.iload_n dX9_carry_98 rfl ?_
        refine T.aI (z := D 33 i) (x := (64 + i)) dX9_carry_99 ok55 (fun _ => rfl) (by omega) (by omega) ((wrM_c rfl).trans (by simp [upT])) ?_
        refine T.nist (x := i) dX9_carry_100 rfl ok33 (fun _ => rfl) rfl (by omega) ?_
        refine T.iinc (ls' := [some (rf E 29 0 0), some (.int (iI 0)), some (.int (iI (((64 + i : Nat) : Int) + 1))), some (.int (iI (i : Int)))]) dX9_carry_101 rfl rfl ?_
        refine T.iinc (ls' := [some (rf E 29 0 0), some (.int (iI 0)), some (.int (iI (((64 + i : Nat) : Int) + 1))), some (.int (iI ((i : Int) + 1)))]) dX9_carry_104 rfl rfl ?_
        refine T.goto 58 dX9_carry_107 ?_
        exact ih (48 - (i + 1)) (by omega) (i + 1) _ rfl (by omega) (by rw [hD]; rfl)
      · exact absurd c2 (by omega)
set_option maxHeartbeats 4000000 in
set_option maxRecDepth 100000 in
theorem n_cy0_a (E : Ev) (m : Mem) (S : PS) : ∀ (k : Nat) (i : Nat) (D : PS), 64 - i = k → i ≤ 64 → D = cy0 31 0 S i → T E 1 mX9_carry 4 [some (rf E 29 0 0), some (.int (iI 0)), some (.int (iI ((0 + i : Nat) : Int))), some (.int (iI (i : Int)))] [] (hp E (wrM m D)) (fun r' h' => r' = none ∧ h' = hp E (wrM m (cyS0 S))) := by
  intro k
  induction k using Nat.strongRecOn with
  | ind k ih =>
    intro i D hk hi hD
    refine T.iload_n dX9_carry_4 rfl ?_
    refine T.bipush dX9_carry_5 ?_
    refine T.icmp_ge 56 dX9_carry_7 (by unfold rg; omega) (by unfold rg; omega) (fun c1 => ?_) (fun c1 => ?_)
    · refine T.iconst dX9_carry_56 ?_
      refine T.istore_n (ls' := [some (rf E 29 0 0), some (.int (iI 0)), some (.int (iI ((0 + i : Nat) : Int))), some (.int (iI 0))]) dX9_carry_57 rfl ?_
      obtain rfl : i = 64 := by omega
      rw [hD]
      exact n_cy0_b E m _ _ 0 _ rfl (Nat.zero_le _) rfl
    · refine T.aload_n dX9_carry_10 rfl ?_
      refine T.mget (v := rf E 55 0 0) dX9_carry_11 fo_X9_69 ok29 rfl rfl ?_
      refine T.iload_n dX9_carry_14 rfl ?_
      refine T.iload_n dX9_carry_15 rfl ?_
      refine T.if_eq 28 dX9_carry_16 (by unfold rg; omega) (fun c2 => ?_) (fun c2 => ?_)
      · refine T.aload_n dX9_carry_28 rfl ?_
        refine T.mget (v := rf E 31 0 0) dX9_carry_29 fo_X9_7 ok29 rfl rfl ?_
        refine T.iload_n dX9_carry_32 rfl ?_
        refine T.aI (z := D 31 i) (x := i) dX9_carry_33 ok31 (fun _ => rfl) rfl (by omega) (wrM_c rfl) ?_
        refine T.nist (x := (0 + i)) dX9_carry_34 rfl ok55 (fun _ => rfl) (by omega) (by omega) ?_
        refine T.aload_n dX9_carry_35 rfl ?_
        refine T.mget (v := rf E 31 0 0) dX9_carry_36 fo_X9_7 ok29 rfl rfl ?_
        refine T.iload_n dX9_carry_39 rfl ?_
        refine T.aload_n dX9_carry_40 rfl ?_
        refine T.mget (v := rf E 55 0 0) dX9_carry_41 fo_X9_69 ok29 rfl rfl ?_
        refine T.iload_n dX9_carry_44 rfl ?_
        refine T.aI (z := D 31 i) (x := (0 + i)) dX9_carry_45 ok55 (fun _ => rfl) (by omega) (by omega) ((wrM_c rfl).trans (by simp [upT])) ?_
        refine T.nist (x := i) dX9_carry_46 rfl ok31 (fun _ => rfl) rfl (by omega) ?_
        refine T.iinc (ls' := [some (rf E 29 0 0), some (.int (iI 0)), some (.int (iI (((0 + i : Nat) : Int) + 1))), some (.int (iI (i : Int)))]) dX9_carry_47 rfl rfl ?_
        refine T.iinc (ls' := [some (rf E 29 0 0), some (.int (iI 0)), some (.int (iI (((0 + i : Nat) : Int) + 1))), some (.int (iI ((i : Int) + 1)))]) dX9_carry_50 rfl rfl ?_
        refine T.goto 4 dX9_carry_53 ?_
        exact ih (64 - (i + 1)) (by omega) (i + 1) _ rfl (by omega) (by rw [hD]; rfl)
      · exact absurd c2 (by omega)
set_option maxHeartbeats 4000000 in
set_option maxRecDepth 100000 in
theorem n_carry0 (E : Ev) (m : Mem) (S : PS) : CT E 1 mX9_carry [rf E 29 0 0, .int (iI 0)] (hp E (wrM m S)) (none) (hp E (wrM m (cyS0 S))) := by
  refine CT.go okX9_carry (Nat.le_of_ble_eq_true rfl) ?_
  show T E 1 mX9_carry 0 [some (rf E 29 0 0), some (.int (iI 0)), none, none] [] (hp E (wrM m S)) _
  refine T.iconst dX9_carry_0 ?_
  refine T.istore_n (ls' := [some (rf E 29 0 0), some (.int (iI 0)), some (.int (iI 0)), none]) dX9_carry_1 rfl ?_
  refine T.iconst dX9_carry_2 ?_
  refine T.istore_n (ls' := [some (rf E 29 0 0), some (.int (iI 0)), some (.int (iI 0)), some (.int (iI 0))]) dX9_carry_3 rfl ?_
  exact n_cy0_a E m S _ 0 _ rfl (Nat.zero_le _) rfl
set_option maxHeartbeats 4000000 in
set_option maxRecDepth 100000 in
theorem n_cyT1 (E : Ev) (m : Mem) (D : PS) : T E 1 mX9_carry 164 [some (rf E 29 0 0), some (.int (iI 1)), some (.int (iI 136)), none] [] (hp E (wrM m D)) (fun r' h' => r' = none ∧ h' = hp E (wrM m (cyT1 D))) := by
  refine T.aload_n dX9_carry_164 rfl ?_
  refine T.mget (v := rf E 55 0 0) dX9_carry_165 fo_X9_69 ok29 rfl rfl ?_
  refine T.iload_n dX9_carry_168 rfl ?_
  refine T.iload_n dX9_carry_169 rfl ?_
  refine T.if_eq 182 dX9_carry_170 (by unfold rg; omega) (fun c1 => ?_) (fun c1 => ?_)
  · exact absurd c1 (by omega)
  · refine T.aload_n dX9_carry_173 rfl ?_
    refine T.mget (v := rf E 55 0 0) dX9_carry_174 fo_X9_69 ok29 rfl rfl ?_
    refine T.iload_n dX9_carry_177 rfl ?_
    refine T.aI (z := D 55 136) (x := 136) dX9_carry_178 ok55 (fun _ => rfl) rfl (by decide) (wrM_c rfl) ?_
    refine T.goto 186 dX9_carry_179 ?_
    refine T.nist (x := 136) dX9_carry_186 rfl ok55 (fun _ => rfl) rfl (by decide) ?_
    refine T.aload_n dX9_carry_187 rfl ?_
    refine T.aload_n dX9_carry_188 rfl ?_
    refine T.mget (v := rf E 55 0 0) dX9_carry_189 fo_X9_69 ok29 rfl rfl ?_
    refine T.iload_n dX9_carry_192 rfl ?_
    refine T.aI (z := D 55 136) (x := 136) dX9_carry_193 ok55 (fun _ => rfl) rfl (by decide) ((wrM_c rfl).trans (by simp [upT])) ?_
    refine T.nputI dX9_carry_194 fp_X9_87 rfl ok29 rfl rfl (Nat.le_of_ble_eq_true rfl) ?_
    refine T.aload_n dX9_carry_197 rfl ?_
    refine T.mget (v := rf E 55 0 0) dX9_carry_198 fo_X9_69 ok29 rfl rfl ?_
    refine T.iload_n dX9_carry_201 rfl ?_
    refine T.iconst dX9_carry_202 ?_
    refine T.iadd dX9_carry_203 ?_
    refine T.iload_n dX9_carry_204 rfl ?_
    refine T.if_eq 219 dX9_carry_205 (by unfold rg; omega) (fun c2 => ?_) (fun c2 => ?_)
    · exact absurd c2 (by omega)
    · refine T.aload_n dX9_carry_208 rfl ?_
      refine T.mget (v := rf E 55 0 0) dX9_carry_209 fo_X9_69 ok29 rfl rfl ?_
      refine T.iload_n dX9_carry_212 rfl ?_
      refine T.iconst dX9_carry_213 ?_
      refine T.iadd dX9_carry_214 ?_
      refine T.aI (z := (upT D 55 136 (D 55 136)) 55 (136 + 1)) (x := 136 + 1) dX9_carry_215 ok55 (fun _ => rfl) (by omega) (by omega) ((wrM_c rfl).trans (by simp [upT])) ?_
      refine T.goto 223 dX9_carry_216 ?_
      refine T.nist (x := 136 + 1) dX9_carry_223 rfl ok55 (fun _ => rfl) (by omega) (by omega) ?_
      refine T.aload_n dX9_carry_224 rfl ?_
      refine T.aload_n dX9_carry_225 rfl ?_
      refine T.mget (v := rf E 55 0 0) dX9_carry_226 fo_X9_69 ok29 rfl rfl ?_
      refine T.iload_n dX9_carry_229 rfl ?_
      refine T.iconst dX9_carry_230 ?_
      refine T.iadd dX9_carry_231 ?_
      refine T.aI (z := (upT D 55 136 (D 55 136)) 55 (136 + 1)) (x := 136 + 1) dX9_carry_232 ok55 (fun _ => rfl) (by omega) (by omega) ((wrM_c rfl).trans (by simp [upT])) ?_
      refine T.nputI dX9_carry_233 fp_X9_91 rfl ok29 rfl rfl (Nat.le_of_ble_eq_true rfl) ?_
      refine T.aload_n dX9_carry_236 rfl ?_
      refine T.mget (v := rf E 55 0 0) dX9_carry_237 fo_X9_69 ok29 rfl rfl ?_
      refine T.iload_n dX9_carry_240 rfl ?_
      refine T.iconst dX9_carry_241 ?_
      refine T.iadd dX9_carry_242 ?_
      refine T.iload_n dX9_carry_243 rfl ?_
      refine T.if_eq 258 dX9_carry_244 (by unfold rg; omega) (fun c3 => ?_) (fun c3 => ?_)
      · exact absurd c3 (by omega)
      · refine T.aload_n dX9_carry_247 rfl ?_
        refine T.mget (v := rf E 55 0 0) dX9_carry_248 fo_X9_69 ok29 rfl rfl ?_
        refine T.iload_n dX9_carry_251 rfl ?_
        refine T.iconst dX9_carry_252 ?_
        refine T.iadd dX9_carry_253 ?_
        refine T.aI (z := (upT (upT (upT D 55 136 (D 55 136)) 29 0 (D 55 136)) 55 (136 + 1) ((upT D 55 136 (D 55 136)) 55 (136 + 1))) 55 (136 + 2)) (x := 136 + 2) dX9_carry_254 ok55 (fun _ => rfl) (by omega) (by omega) ((wrM_c rfl).trans (by simp [upT])) ?_
        refine T.goto 264 dX9_carry_255 ?_
        refine T.nist (x := 136 + 2) dX9_carry_264 rfl ok55 (fun _ => rfl) (by omega) (by omega) ?_
        refine T.aload_n dX9_carry_265 rfl ?_
        refine T.mget (v := rf E 37 0 0) dX9_carry_266 fo_X9_22 ok29 rfl rfl ?_
        refine T.iconst dX9_carry_269 ?_
        refine T.aload_n dX9_carry_270 rfl ?_
        refine T.mget (v := rf E 55 0 0) dX9_carry_271 fo_X9_69 ok29 rfl rfl ?_
        refine T.iload_n dX9_carry_274 rfl ?_
        refine T.iconst dX9_carry_275 ?_
        refine T.iadd dX9_carry_276 ?_
        refine T.aI (z := (upT (upT (upT D 55 136 (D 55 136)) 29 0 (D 55 136)) 55 (136 + 1) ((upT D 55 136 (D 55 136)) 55 (136 + 1))) 55 (136 + 2)) (x := 136 + 2) dX9_carry_277 ok55 (fun _ => rfl) (by omega) (by omega) ((wrM_c rfl).trans (by simp [upT])) ?_
        refine T.nist (x := 0) dX9_carry_278 rfl ok37 (fun _ => rfl) rfl (by decide) ?_
        refine T.aload_n dX9_carry_279 rfl ?_
        refine T.mget (v := rf E 55 0 0) dX9_carry_280 fo_X9_69 ok29 rfl rfl ?_
        refine T.iload_n dX9_carry_283 rfl ?_
        refine T.iconst dX9_carry_284 ?_
        refine T.iadd dX9_carry_285 ?_
        refine T.iload_n dX9_carry_286 rfl ?_
        refine T.if_eq 301 dX9_carry_287 (by unfold rg; omega) (fun c4 => ?_) (fun c4 => ?_)
        · exact absurd c4 (by omega)
        · refine T.aload_n dX9_carry_290 rfl ?_
          refine T.mget (v := rf E 55 0 0) dX9_carry_291 fo_X9_69 ok29 rfl rfl ?_
          refine T.iload_n dX9_carry_294 rfl ?_
          refine T.iconst dX9_carry_295 ?_
          refine T.iadd dX9_carry_296 ?_
          refine T.aI (z := (upT (upT (upT (upT (upT D 55 136 (D 55 136)) 29 0 (D 55 136)) 55 (136 + 1) ((upT D 55 136 (D 55 136)) 55 (136 + 1))) 29 2 ((upT D 55 136 (D 55 136)) 55 (136 + 1))) 55 (136 + 2) ((upT (upT (upT D 55 136 (D 55 136)) 29 0 (D 55 136)) 55 (136 + 1) ((upT D 55 136 (D 55 136)) 55 (136 + 1))) 55 (136 + 2))) 55 (136 + 3)) (x := 136 + 3) dX9_carry_297 ok55 (fun _ => rfl) (by omega) (by omega) ((wrM_c rfl).trans (by simp [upT])) ?_
          refine T.goto 307 dX9_carry_298 ?_
          refine T.nist (x := 136 + 3) dX9_carry_307 rfl ok55 (fun _ => rfl) (by omega) (by omega) ?_
          refine T.aload_n dX9_carry_308 rfl ?_
          refine T.mget (v := rf E 37 0 0) dX9_carry_309 fo_X9_22 ok29 rfl rfl ?_
          refine T.iconst dX9_carry_312 ?_
          refine T.aload_n dX9_carry_313 rfl ?_
          refine T.mget (v := rf E 55 0 0) dX9_carry_314 fo_X9_69 ok29 rfl rfl ?_
          refine T.iload_n dX9_carry_317 rfl ?_
          refine T.iconst dX9_carry_318 ?_
          refine T.iadd dX9_carry_319 ?_
          refine T.aI (z := (upT (upT (upT (upT (upT D 55 136 (D 55 136)) 29 0 (D 55 136)) 55 (136 + 1) ((upT D 55 136 (D 55 136)) 55 (136 + 1))) 29 2 ((upT D 55 136 (D 55 136)) 55 (136 + 1))) 55 (136 + 2) ((upT (upT (upT D 55 136 (D 55 136)) 29 0 (D 55 136)) 55 (136 + 1) ((upT D 55 136 (D 55 136)) 55 (136 + 1))) 55 (136 + 2))) 55 (136 + 3)) (x := 136 + 3) dX9_carry_320 ok55 (fun _ => rfl) (by omega) (by omega) ((wrM_c rfl).trans (by simp [upT])) ?_
          refine T.nist (x := 1) dX9_carry_321 rfl ok37 (fun _ => rfl) rfl (by decide) ?_
          exact T.vret dX9_carry_322 ⟨rfl, rfl⟩
set_option maxHeartbeats 4000000 in
set_option maxRecDepth 100000 in
theorem n_cy1_c (E : Ev) (m : Mem) (S : PS) : ∀ (k : Nat) (i : Nat) (D : PS), 24 - i = k → i ≤ 24 → D = cy1 36 112 S i → T E 1 mX9_carry 112 [some (rf E 29 0 0), some (.int (iI 1)), some (.int (iI ((112 + i : Nat) : Int))), some (.int (iI (i : Int)))] [] (hp E (wrM m D)) (fun r' h' => r' = none ∧ h' = hp E (wrM m (cyT1 (cy1 36 112 S 24)))) := by
  intro k
  induction k using Nat.strongRecOn with
  | ind k ih =>
    intro i D hk hi hD
    refine T.iload_n dX9_carry_112 rfl ?_
    refine T.bipush dX9_carry_113 ?_
    refine T.icmp_ge 164 dX9_carry_115 (by unfold rg; omega) (by unfold rg; omega) (fun c1 => ?_) (fun c1 => ?_)
    · refine T.fgt (ls' := [some (rf E 29 0 0), some (.int (iI 1)), some (.int (iI ((112 + i : Nat) : Int))), none]) (by simp [lsw]) ?_
      obtain rfl : i = 24 := by omega
      rw [hD]
      exact n_cyT1 E m _
    · refine T.aload_n dX9_carry_118 rfl ?_
      refine T.mget (v := rf E 55 0 0) dX9_carry_119 fo_X9_69 ok29 rfl rfl ?_
      refine T.iload_n dX9_carry_122 rfl ?_
      refine T.iload_n dX9_carry_123 rfl ?_
      refine T.if_eq 136 dX9_carry_124 (by unfold rg; omega) (fun c2 => ?_) (fun c2 => ?_)
      · exact absurd c2 (by omega)
      · refine T.aload_n dX9_carry_127 rfl ?_
        refine T.mget (v := rf E 55 0 0) dX9_carry_128 fo_X9_69 ok29 rfl rfl ?_
        refine T.iload_n dX9_carry_131 rfl ?_
        refine T.aI (z := D 55 (112 + i)) (x := (112 + i)) dX9_carry_132 ok55 (fun _ => rfl) (by omega) (by omega) (wrM_c rfl) ?_
        refine T.goto 142 dX9_carry_133 ?_
        refine T.nist (x := (112 + i)) dX9_carry_142 rfl ok55 (fun _ => rfl) (by omega) (by omega) ?_
        refine T.aload_n dX9_carry_143 rfl ?_
        refine T.mget (v := rf E 36 0 0) dX9_carry_144 fo_X9_19 ok29 rfl rfl ?_
        refine T.iload_n dX9_carry_147 rfl ?_
        refine T.aload_n dX9_carry_148 rfl ?_
        refine T.mget (v := rf E 55 0 0) dX9_carry_149 fo_X9_69 ok29 rfl rfl ?_
        refine T.iload_n dX9_carry_152 rfl ?_
        refine T.aI (z := D 55 (112 + i)) (x := (112 + i)) dX9_carry_153 ok55 (fun _ => rfl) (by omega) (by omega) ((wrM_c rfl).trans (by simp [upT])) ?_
        refine T.nist (x := i) dX9_carry_154 rfl ok36 (fun _ => rfl) rfl (by omega) ?_
        refine T.iinc (ls' := [some (rf E 29 0 0), some (.int (iI 1)), some (.int (iI (((112 + i : Nat) : Int) + 1))), some (.int (iI (i : Int)))]) dX9_carry_155 rfl rfl ?_
        refine T.iinc (ls' := [some (rf E 29 0 0), some (.int (iI 1)), some (.int (iI (((112 + i : Nat) : Int) + 1))), some (.int (iI ((i : Int) + 1)))]) dX9_carry_158 rfl rfl ?_
        refine T.goto 112 dX9_carry_161 ?_
        exact ih (24 - (i + 1)) (by omega) (i + 1) _ rfl (by omega) (by rw [hD]; rfl)
set_option maxHeartbeats 4000000 in
set_option maxRecDepth 100000 in
theorem n_cy1_b (E : Ev) (m : Mem) (S : PS) : ∀ (k : Nat) (i : Nat) (D : PS), 48 - i = k → i ≤ 48 → D = cy1 33 64 S i → T E 1 mX9_carry 58 [some (rf E 29 0 0), some (.int (iI 1)), some (.int (iI ((64 + i : Nat) : Int))), some (.int (iI (i : Int)))] [] (hp E (wrM m D)) (fun r' h' => r' = none ∧ h' = hp E (wrM m (cyT1 (cy1 36 112 (cy1 33 64 S 48) 24)))) := by
  intro k
  induction k using Nat.strongRecOn with
  | ind k ih =>
    intro i D hk hi hD
    refine T.iload_n dX9_carry_58 rfl ?_
    refine T.bipush dX9_carry_59 ?_
    refine T.icmp_ge 110 dX9_carry_61 (by unfold rg; omega) (by unfold rg; omega) (fun c1 => ?_) (fun c1 => ?_)
    · refine T.iconst dX9_carry_110 ?_
      refine T.istore_n (ls' := [some (rf E 29 0 0), some (.int (iI 1)), some (.int (iI ((64 + i : Nat) : Int))), some (.int (iI 0))]) dX9_carry_111 rfl ?_
      obtain rfl : i = 48 := by omega
      rw [hD]
      exact n_cy1_c E m _ _ 0 _ rfl (Nat.zero_le _) rfl
    · refine T.aload_n dX9_carry_64 rfl ?_
      refine T.mget (v := rf E 55 0 0) dX9_carry_65 fo_X9_69 ok29 rfl rfl ?_
      refine T.iload_n dX9_carry_68 rfl ?_
      refine T.iload_n dX9_carry_69 rfl ?_
      refine T.if_eq 82 dX9_carry_70 (by unfold rg; omega) (fun c2 => ?_) (fun c2 => ?_)
      · exact absurd c2 (by omega)
      · refine T.aload_n dX9_carry_73 rfl ?_
        refine T.mget (v := rf E 55 0 0) dX9_carry_74 fo_X9_69 ok29 rfl rfl ?_
        refine T.iload_n dX9_carry_77 rfl ?_
        refine T.aI (z := D 55 (64 + i)) (x := (64 + i)) dX9_carry_78 ok55 (fun _ => rfl) (by omega) (by omega) (wrM_c rfl) ?_
        refine T.goto 88 dX9_carry_79 ?_
        refine T.nist (x := (64 + i)) dX9_carry_88 rfl ok55 (fun _ => rfl) (by omega) (by omega) ?_
        refine T.aload_n dX9_carry_89 rfl ?_
        refine T.mget (v := rf E 33 0 0) dX9_carry_90 fo_X9_13 ok29 rfl rfl ?_
        refine T.iload_n dX9_carry_93 rfl ?_
        refine T.aload_n dX9_carry_94 rfl ?_
        refine T.mget (v := rf E 55 0 0) dX9_carry_95 fo_X9_69 ok29 rfl rfl ?_
        refine T.iload_n dX9_carry_98 rfl ?_
        refine T.aI (z := D 55 (64 + i)) (x := (64 + i)) dX9_carry_99 ok55 (fun _ => rfl) (by omega) (by omega) ((wrM_c rfl).trans (by simp [upT])) ?_
        refine T.nist (x := i) dX9_carry_100 rfl ok33 (fun _ => rfl) rfl (by omega) ?_
        refine T.iinc (ls' := [some (rf E 29 0 0), some (.int (iI 1)), some (.int (iI (((64 + i : Nat) : Int) + 1))), some (.int (iI (i : Int)))]) dX9_carry_101 rfl rfl ?_
        refine T.iinc (ls' := [some (rf E 29 0 0), some (.int (iI 1)), some (.int (iI (((64 + i : Nat) : Int) + 1))), some (.int (iI ((i : Int) + 1)))]) dX9_carry_104 rfl rfl ?_
        refine T.goto 58 dX9_carry_107 ?_
        exact ih (48 - (i + 1)) (by omega) (i + 1) _ rfl (by omega) (by rw [hD]; rfl)
set_option maxHeartbeats 4000000 in
set_option maxRecDepth 100000 in
theorem n_cy1_a (E : Ev) (m : Mem) (S : PS) : ∀ (k : Nat) (i : Nat) (D : PS), 64 - i = k → i ≤ 64 → D = cy1 31 0 S i → T E 1 mX9_carry 4 [some (rf E 29 0 0), some (.int (iI 1)), some (.int (iI ((0 + i : Nat) : Int))), some (.int (iI (i : Int)))] [] (hp E (wrM m D)) (fun r' h' => r' = none ∧ h' = hp E (wrM m (cyS1 S))) := by
  intro k
  induction k using Nat.strongRecOn with
  | ind k ih =>
    intro i D hk hi hD
    refine T.iload_n dX9_carry_4 rfl ?_
    refine T.bipush dX9_carry_5 ?_
    refine T.icmp_ge 56 dX9_carry_7 (by unfold rg; omega) (by unfold rg; omega) (fun c1 => ?_) (fun c1 => ?_)
    · refine T.iconst dX9_carry_56 ?_
      refine T.istore_n (ls' := [some (rf E 29 0 0), some (.int (iI 1)), some (.int (iI ((0 + i : Nat) : Int))), some (.int (iI 0))]) dX9_carry_57 rfl ?_
      obtain rfl : i = 64 := by omega
      rw [hD]
      exact n_cy1_b E m _ _ 0 _ rfl (Nat.zero_le _) rfl
    · refine T.aload_n dX9_carry_10 rfl ?_
      refine T.mget (v := rf E 55 0 0) dX9_carry_11 fo_X9_69 ok29 rfl rfl ?_
      refine T.iload_n dX9_carry_14 rfl ?_
      refine T.iload_n dX9_carry_15 rfl ?_
      refine T.if_eq 28 dX9_carry_16 (by unfold rg; omega) (fun c2 => ?_) (fun c2 => ?_)
      · exact absurd c2 (by omega)
      · refine T.aload_n dX9_carry_19 rfl ?_
        refine T.mget (v := rf E 55 0 0) dX9_carry_20 fo_X9_69 ok29 rfl rfl ?_
        refine T.iload_n dX9_carry_23 rfl ?_
        refine T.aI (z := D 55 (0 + i)) (x := (0 + i)) dX9_carry_24 ok55 (fun _ => rfl) (by omega) (by omega) (wrM_c rfl) ?_
        refine T.goto 34 dX9_carry_25 ?_
        refine T.nist (x := (0 + i)) dX9_carry_34 rfl ok55 (fun _ => rfl) (by omega) (by omega) ?_
        refine T.aload_n dX9_carry_35 rfl ?_
        refine T.mget (v := rf E 31 0 0) dX9_carry_36 fo_X9_7 ok29 rfl rfl ?_
        refine T.iload_n dX9_carry_39 rfl ?_
        refine T.aload_n dX9_carry_40 rfl ?_
        refine T.mget (v := rf E 55 0 0) dX9_carry_41 fo_X9_69 ok29 rfl rfl ?_
        refine T.iload_n dX9_carry_44 rfl ?_
        refine T.aI (z := D 55 (0 + i)) (x := (0 + i)) dX9_carry_45 ok55 (fun _ => rfl) (by omega) (by omega) ((wrM_c rfl).trans (by simp [upT])) ?_
        refine T.nist (x := i) dX9_carry_46 rfl ok31 (fun _ => rfl) rfl (by omega) ?_
        refine T.iinc (ls' := [some (rf E 29 0 0), some (.int (iI 1)), some (.int (iI (((0 + i : Nat) : Int) + 1))), some (.int (iI (i : Int)))]) dX9_carry_47 rfl rfl ?_
        refine T.iinc (ls' := [some (rf E 29 0 0), some (.int (iI 1)), some (.int (iI (((0 + i : Nat) : Int) + 1))), some (.int (iI ((i : Int) + 1)))]) dX9_carry_50 rfl rfl ?_
        refine T.goto 4 dX9_carry_53 ?_
        exact ih (64 - (i + 1)) (by omega) (i + 1) _ rfl (by omega) (by rw [hD]; rfl)
set_option maxHeartbeats 4000000 in
set_option maxRecDepth 100000 in
theorem n_carry1 (E : Ev) (m : Mem) (S : PS) : CT E 1 mX9_carry [rf E 29 0 0, .int (iI 1)] (hp E (wrM m S)) (none) (hp E (wrM m (cyS1 S))) := by
  refine CT.go okX9_carry (Nat.le_of_ble_eq_true rfl) ?_
  show T E 1 mX9_carry 0 [some (rf E 29 0 0), some (.int (iI 1)), none, none] [] (hp E (wrM m S)) _
  refine T.iconst dX9_carry_0 ?_
  refine T.istore_n (ls' := [some (rf E 29 0 0), some (.int (iI 1)), some (.int (iI 0)), none]) dX9_carry_1 rfl ?_
  refine T.iconst dX9_carry_2 ?_
  refine T.istore_n (ls' := [some (rf E 29 0 0), some (.int (iI 1)), some (.int (iI 0)), some (.int (iI 0))]) dX9_carry_3 rfl ?_
  exact n_cy1_a E m S _ 0 _ rfl (Nat.zero_le _) rfl
def nimageS (S : PS) : PS := upT (cyS0 S) 29 24 1
set_option maxHeartbeats 4000000 in
set_option maxRecDepth 100000 in
theorem n_image (E : Ev) (m : Mem) (S : PS) : CT E 2 mX9_image [rf E 29 0 0] (hp E (wrM m S)) (some (.int (iI 1))) (hp E (wrM m (nimageS S))) := by
  refine CT.go okX9_image (Nat.le_of_ble_eq_true rfl) ?_
  show T E 2 mX9_image 0 [some (rf E 29 0 0)] [] (hp E (wrM m S)) _
  refine T.aload_n dX9_image_0 rfl ?_
  refine T.iconst dX9_image_1 ?_
  refine T.cV0 (As := [.int (iI 0)]) (st := []) dX9_image_2 lk_X9_213 (n_carry0 E m S) ok29 rfl rfl (by decide) rfl rfl (Nat.le_of_ble_eq_true rfl) ?_
  refine T.aload_n dX9_image_5 rfl ?_
  refine T.iconst dX9_image_6 ?_
  refine T.nputZ dX9_image_7 fp_X9_217 (Or.inr rfl) rfl ok29 rfl rfl (Nat.le_of_ble_eq_true rfl) ?_
  refine T.iconst dX9_image_10 ?_
  exact T.iret dX9_image_11 ⟨rfl, rfl⟩
def nrestoreR (S : PS)  : Int := if S 29 24 = 0 then -4 else 1
def nrestoreS (S : PS)  : PS := if S 29 24 = 0 then S else cyS1 S
set_option maxHeartbeats 4000000 in
set_option maxRecDepth 100000 in
theorem n_restore (E : Ev) (m : Mem) (S : PS)  (hS : InvS kM S)  : CT E 2 mX9_restore [rf E 29 0 0] (hp E (wrM m S)) (some (.int (iI (nrestoreR S )))) (hp E (wrM m (nrestoreS S ))) := by
  refine CT.go okX9_restore (Nat.le_of_ble_eq_true rfl) ?_
  show T E 2 mX9_restore 0 [some (rf E 29 0 0)] [] (hp E (wrM m S)) _
  refine T.aload_n dX9_restore_0 rfl ?_
  refine T.gI (z := S 29 24) dX9_restore_1 fo_X9_217 ok29 rfl rfl (wrM_c rfl) ?_
  have q1 : 0 ≤ S 29 24 ∧ S 29 24 ≤ 1 := hS 29 24 rfl
  refine T.if_ne 10 dX9_restore_4 (by unfold rg; omega) (fun c2 => ?_) (fun c2 => ?_)
  · refine T.aload_n dX9_restore_10 rfl ?_
    refine T.iconst dX9_restore_11 ?_
    refine T.cV0 (As := [.int (iI 1)]) (st := []) dX9_restore_12 lk_X9_213 (n_carry1 E m S) ok29 rfl rfl (by decide) rfl rfl (Nat.le_of_ble_eq_true rfl) ?_
    refine T.iconst dX9_restore_15 ?_
    exact T.iret dX9_restore_16 ⟨congrArg (fun z => some (Value.int (iI z))) (Eq.symm (show nrestoreR S  = 1 from by unfold nrestoreR; rw [if_neg (by omega)] <;> first | rfl | omega)), congrArg (fun z => hp E (wrM m z)) (Eq.symm (show nrestoreS S  = (cyS1 S) from by unfold nrestoreS; rw [if_neg (by omega)] <;> rfl))⟩
  · refine T.bipush dX9_restore_7 ?_
    exact T.iret dX9_restore_9 ⟨congrArg (fun z => some (Value.int (iI z))) (Eq.symm (show nrestoreR S  = (-4) from by unfold nrestoreR; rw [if_pos (by omega)] <;> first | rfl | omega)), congrArg (fun z => hp E (wrM m z)) (Eq.symm (show nrestoreS S  = S from by unfold nrestoreS; rw [if_pos (by omega)] <;> rfl))⟩
