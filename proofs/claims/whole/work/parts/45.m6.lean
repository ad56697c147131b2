noncomputable def ppy (S : PS) (l p : Nat) (y : Int) : PS := paS S l (10000 * S 33 (4 * p + 1)) (S 33 (4 * p + 2)) (S 33 (4 * p + 3)) y
noncomputable def gdL (l : Nat) (y : Int) (S : PS) : Nat → PS
  | 0 => S
  | p + 1 => if gdL l y S p 33 (4 * p) = y then ppy (gdL l y S p) l p y else gdL l y S p
noncomputable def gdS (S : PS) (l : Nat) (y : Int) : PS := gdL l y (rnS S y) (S 29 2).toNat
noncomputable def mdS (S : PS) (l : Nat) : Nat → PS
  | 0 => begS S
  | n + 1 => gdS (mdS S l n) l n
def owM (S : PS) : Nat → Int
  | 0 => 0
  | d + 1 => owM S d + (S 39 d + S 40 d)
theorem ppy_ok {S : PS} {l p : Nat} {y : Int} (hS : InvS kM S) (hO : mOK S) (hy : 0 ≤ y ∧ y ≤ 299) (hp : (p : Int) < S 29 2) : InvS kM (ppy S l p y) ∧ Dn S (ppy S l p y) := by
  have h1 := hO.2 p hp
  exact paS_ok hS hy (by omega)
theorem gdL_ok {S : PS} {l : Nat} {y : Int} (hS : InvS kM S) (hO : mOK S) (hy : 0 ≤ y ∧ y ≤ 299) : ∀ n, n ≤ (S 29 2).toNat → InvS kM (gdL l y S n) ∧ Dn S (gdL l y S n)
  | 0, _ => ⟨hS, Dn.rf hS⟩
  | n + 1, h => by
    obtain ⟨i1, i2⟩ := gdL_ok (l := l) hS hO hy n (by omega)
    unfold gdL
    split
    · have h2 := ppy_ok (l := l) (p := n) i1 (hO.wf i2.1) hy (by rw [i2.1.2 2 (by decide)]; omega)
      exact ⟨h2.1, i2.tr h2.2⟩
    · exact ⟨i1, i2⟩
theorem rn1_eq {S D : PS} {y : Int} {x k : Nat} (h31 : D 31 = S 31) (h39 : D 39 x = S 39 x) (h40 : D 40 x = S 40 x) (hk : D k x = S k x) : rn1 D y x k x = rn1 S y x k x := by
  unfold rn1
  rw [h31, h39, h40]
  split
  · unfold upT; rw [hk]
  · split
    · unfold upT; rw [hk]
    · exact hk
theorem rnL_at {S : PS} {y : Int} {k : Nat} : ∀ n x, x < n → rnL S y n k x = rn1 S y x k x
  | 0, x, h => by omega
  | n + 1, x, h => by
    show rn1 (rnL S y n) y n k x = _
    by_cases e : x = n
    · subst e
      exact rn1_eq ((rnL_wf x).1 31 (by decide) (by decide)) (rnL_x x x (Nat.le_refl _)) (rnL_x x x (Nat.le_refl _)) (rnL_x x x (Nat.le_refl _))
    · rw [rn1_x e, rnL_at n x (by omega)]
theorem rnS_wf {S : PS} {y : Int} : WF S (rnS S y) := rnL_wf _
theorem rnS_z40 {S : PS} {y : Int} (hz : Z40 S y) : Z40 (rnS S y) (y + 1) := by
  intro d hd hy
  rw [rnS_wf.2 0 (by decide)] at hd
  rw [rnS_wf.1 31 (by decide) (by decide)] at hy
  have h0 := hz d hd (by omega)
  show rnL S y _ 40 d = 0
  rw [rnL_at _ d (by omega)]
  unfold rn1
  rw [if_neg (by omega), if_neg (by omega)]
  exact h0
theorem gdS_ok {S : PS} {l : Nat} {y : Int} (hS : InvS kM S) (hO : mOK S) (hb : CM S (y - 1).toNat) (hz : Z40 S y) (hy : 0 ≤ y ∧ y ≤ 299) : InvS kM (gdS S l y) ∧ CM (gdS S l y) y.toNat ∧ Z40 (gdS S l y) (y + 1) ∧ WF S (gdS S l y) := by
  have h1 := rnS_cm hS hO hb hz hy
  have h2 := gdL_ok (l := l) h1.1 (hO.wf rnS_wf) hy (S 29 2).toNat (by rw [rnS_wf.2 2 (by decide)]; exact Nat.le_refl _)
  exact ⟨h2.1, h2.2.cm h1.2, h2.2.z40 (rnS_z40 hz), rnS_wf.tr h2.2.1⟩
theorem md_ok {S : PS} {l : Nat} (hS : InvS kM S) (hO : mOK S) : ∀ n : Nat, n ≤ 300 → InvS kM (mdS S l n) ∧ CM (mdS S l n) ((n : Int) - 1).toNat ∧ Z40 (mdS S l n) n ∧ WF S (mdS S l n)
  | 0, _ => ⟨begL_inv hS 8, begS_cm, fun d hd _ => (begL_at 8 d (by
      have q : 0 ≤ S 29 0 ∧ S 29 0 ≤ 8 := hS 29 0 rfl
      have : begS S 29 0 = S 29 0 := (begL_wf (S := S) 8).2 0 (by decide)
      have hd' : (d : Int) < begS S 29 0 := hd
      omega)).2.1, begL_wf 8⟩
  | n + 1, h => by
    obtain ⟨i1, i2, i3, i4⟩ := md_ok (l := l) hS hO n (by omega)
    obtain ⟨g1, g2, g3, g4⟩ := gdS_ok (l := l) i1 (hO.wf i4) i2 i3 (by omega)
    refine ⟨g1, ?_, ?_, i4.tr g4⟩
    · rw [show (((n + 1 : Nat) : Int) - 1).toNat = ((n : Int)).toNat by omega]; exact g2
    · rw [show ((n + 1 : Nat) : Int) = (n : Int) + 1 by omega]; exact g3
theorem owM_bd {S : PS} (h : InvS kM S) : ∀ n : Nat, 0 ≤ owM S n ∧ owM S n ≤ 4099990000 * n
  | 0 => by unfold owM; omega
  | n + 1 => by
    have h1 := owM_bd h n
    have q1 : 0 ≤ S 39 n ∧ S 39 n ≤ 99990000 := h 39 n rfl
    have q2 : 0 ≤ S 40 n ∧ S 40 n ≤ 4000000000 := h 40 n rfl
    unfold owM
    omega
set_option maxHeartbeats 4000000 in
set_option maxRecDepth 100000 in
theorem n_putPay (E : Ev) (m : Mem) (S : PS) (l p : Nat) (y : Int) (hS : InvS kM S) (hO : mOK S) (hl : l < 2) (hy : 0 ≤ y ∧ y ≤ 299) (hp12 : (p : Int) < S 29 2) : CT E 5 mX9_putPayment [rf E 29 0 0, .int (iI (l : Int)), .int (iI (p : Int)), .int (iI y)] (hp E (wrM m S)) (none) (hp E (wrM m (ppy S l p y))) := by
  refine CT.go okX9_putPayment (Nat.le_of_ble_eq_true rfl) ?_
  show T E 5 mX9_putPayment 0 [some (rf E 29 0 0), some (.int (iI (l : Int))), some (.int (iI (p : Int))), some (.int (iI y))] [] (hp E (wrM m S)) _
  have q2 : 0 ≤ S 29 2 ∧ S 29 2 ≤ 12 := hS 29 2 rfl
  have q3 := hO.2 p hp12
  refine T.aload_n dX9_putPayment_0 rfl ?_
  refine T.iload_n dX9_putPayment_1 rfl ?_
  refine T.ldc2 dX9_putPayment_2 kl_X9_135 ?_
  refine T.aload_n dX9_putPayment_5 rfl ?_
  refine T.mget (v := rf E 33 0 0) dX9_putPayment_6 fo_X9_13 ok29 rfl rfl ?_
  refine T.iconst dX9_putPayment_9 ?_
  refine T.iload_n dX9_putPayment_10 rfl ?_
  refine T.imul dX9_putPayment_11 ?_
  refine T.iconst dX9_putPayment_12 ?_
  refine T.iadd dX9_putPayment_13 ?_
  refine T.aI (z := S 33 ((4 * p) + 1)) (x := (4 * p) + 1) dX9_putPayment_14 ok33 (fun _ => rfl) (by omega) (by omega) (wrM_c rfl) ?_
  have q1 : -1 ≤ S 33 ((4 * p) + 1) ∧ S 33 ((4 * p) + 1) ≤ 9999 := hS 33 ((4 * p) + 1) rfl
  refine T.i2l dX9_putPayment_15 (by unfold rg; omega) ?_
  refine T.lmul dX9_putPayment_16 ?_
  refine T.aload_n dX9_putPayment_17 rfl ?_
  refine T.mget (v := rf E 33 0 0) dX9_putPayment_18 fo_X9_13 ok29 rfl rfl ?_
  refine T.iconst dX9_putPayment_21 ?_
  refine T.iload_n dX9_putPayment_22 rfl ?_
  refine T.imul dX9_putPayment_23 ?_
  refine T.iconst dX9_putPayment_24 ?_
  refine T.iadd dX9_putPayment_25 ?_
  refine T.aI (z := S 33 ((4 * p) + 2)) (x := (4 * p) + 2) dX9_putPayment_26 ok33 (fun _ => rfl) (by omega) (by omega) (wrM_c rfl) ?_
  have q2 : -1 ≤ S 33 ((4 * p) + 2) ∧ S 33 ((4 * p) + 2) ≤ 9999 := hS 33 ((4 * p) + 2) rfl
  refine T.aload_n dX9_putPayment_27 rfl ?_
  refine T.mget (v := rf E 33 0 0) dX9_putPayment_28 fo_X9_13 ok29 rfl rfl ?_
  refine T.iconst dX9_putPayment_31 ?_
  refine T.iload_n dX9_putPayment_32 rfl ?_
  refine T.imul dX9_putPayment_33 ?_
  refine T.iconst dX9_putPayment_34 ?_
  refine T.iadd dX9_putPayment_35 ?_
  refine T.aI (z := S 33 ((4 * p) + 3)) (x := (4 * p) + 3) dX9_putPayment_36 ok33 (fun _ => rfl) (by omega) (by omega) (wrM_c rfl) ?_
  have q3 : -1 ≤ S 33 ((4 * p) + 3) ∧ S 33 ((4 * p) + 3) ≤ 9999 := hS 33 ((4 * p) + 3) rfl
  refine T.iload_n dX9_putPayment_37 rfl ?_
  refine T.cV0 (As := [.int (iI (l : Int)), .long (lI (10000 * (S 33 ((4 * p) + 1)))), .int (iI (S 33 ((4 * p) + 2))), .int (iI (S 33 ((4 * p) + 3))), .int (iI y)]) (st := []) dX9_putPayment_38 lk_X9_168 (n_putAll E m S l (10000 * (S 33 ((4 * p) + 1))) (S 33 ((4 * p) + 2)) (S 33 ((4 * p) + 3)) y hS hl hy (by omega) (by omega) (by omega)) ok29 rfl rfl (by decide) rfl rfl (Nat.le_of_ble_eq_true rfl) ?_
  exact T.vret dX9_putPayment_41 ⟨rfl, rfl⟩
set_option maxHeartbeats 4000000 in
set_option maxRecDepth 100000 in
theorem n_goDay_lp (E : Ev) (m : Mem) (S : PS) (l : Nat) (y : Int) (hS : InvS kM S) (hO : mOK S) (hl : l < 2) (hy : 0 ≤ y ∧ y ≤ 299) (n : Nat) (hn : S 29 2 = n) : ∀ (k : Nat) (p : Nat) (D : PS), n - p = k → p ≤ n → D = gdL l y S p → T E 6 mX9_goDay 7 [some (rf E 29 0 0), some (.int (iI (l : Int))), some (.int (iI y)), some (.int (iI (p : Int)))] [] (hp E (wrM m D)) (fun r' h' => r' = none ∧ h' = hp E (wrM m (gdL l y S n))) := by
  have hn8 : 0 ≤ S 29 2 ∧ S 29 2 ≤ 12 := hS 29 2 rfl
  intro k
  induction k using Nat.strongRecOn with
  | ind k ih =>
    intro p D hk hpn hD
    have i0 := gdL_ok (l := l) hS hO hy p (by omega)
    rw [← hD] at i0
    have hDI := i0.1
    have e292 : D 29 2 = S 29 2 := i0.2.1.2 2 (by decide)
    refine T.iload_n dX9_goDay_7 rfl ?_
    refine T.aload_n dX9_goDay_8 rfl ?_
    refine T.gI (z := D 29 2) dX9_goDay_9 fo_X9_91 ok29 rfl rfl (wrM_c rfl) ?_
    have q1 : 0 ≤ D 29 2 ∧ D 29 2 ≤ 12 := hDI 29 2 rfl
    refine T.icmp_ge 40 dX9_goDay_12 (by unfold rg; omega) (by unfold rg; omega) (fun c2 => ?_) (fun c2 => ?_)
    · obtain rfl : p = n := by omega
      exact T.vret dX9_goDay_40 ⟨rfl, by rw [hD]⟩
    · refine T.aload_n dX9_goDay_15 rfl ?_
      refine T.mget (v := rf E 33 0 0) dX9_goDay_16 fo_X9_13 ok29 rfl rfl ?_
      refine T.iconst dX9_goDay_19 ?_
      refine T.iload_n dX9_goDay_20 rfl ?_
      refine T.imul dX9_goDay_21 ?_
      refine T.aI (z := D 33 (4 * p)) (x := 4 * p) dX9_goDay_22 ok33 (fun _ => rfl) (by omega) (by omega) (wrM_c rfl) ?_
      have q3 : -1 ≤ D 33 (4 * p) ∧ D 33 (4 * p) ≤ 9999 := hDI 33 (4 * p) rfl
      refine T.iload_n dX9_goDay_23 rfl ?_
      refine T.icmp_ne 34 dX9_goDay_24 (by unfold rg; omega) (by unfold rg; omega) (fun c4 => ?_) (fun c4 => ?_)
      · refine T.iinc (ls' := [some (rf E 29 0 0), some (.int (iI (l : Int))), some (.int (iI y)), some (.int (iI ((p : Int) + 1)))]) dX9_goDay_34 rfl rfl ?_
        refine T.goto 7 dX9_goDay_37 ?_
        refine ih (n - (p + 1)) (by omega) (p + 1) _ rfl (by omega) ?_
        rw [show gdL l y S (p + 1) = (if gdL l y S p 33 (4 * p) = y then ppy (gdL l y S p) l p y else gdL l y S p) from rfl, ← hD, if_neg (by omega)]
      · refine T.aload_n dX9_goDay_27 rfl ?_
        refine T.iload_n dX9_goDay_28 rfl ?_
        refine T.iload_n dX9_goDay_29 rfl ?_
        refine T.iload_n dX9_goDay_30 rfl ?_
        refine T.cV0 (As := [.int (iI (l : Int)), .int (iI (p : Int)), .int (iI y)]) (st := []) dX9_goDay_31 lk_X9_176 (n_putPay E m D l p y hDI (hO.wf i0.2.1) hl hy (by omega)) ok29 rfl rfl (by decide) rfl rfl (Nat.le_of_ble_eq_true rfl) ?_
        refine T.iinc (ls' := [some (rf E 29 0 0), some (.int (iI (l : Int))), some (.int (iI y)), some (.int (iI ((p : Int) + 1)))]) dX9_goDay_34 rfl rfl ?_
        refine T.goto 7 dX9_goDay_37 ?_
        refine ih (n - (p + 1)) (by omega) (p + 1) _ rfl (by omega) ?_
        rw [show gdL l y S (p + 1) = (if gdL l y S p 33 (4 * p) = y then ppy (gdL l y S p) l p y else gdL l y S p) from rfl, ← hD, if_pos (by omega)]
set_option maxHeartbeats 4000000 in
set_option maxRecDepth 100000 in
theorem n_goDay (E : Ev) (m : Mem) (S : PS) (l : Nat) (y : Int) (hS : InvS kM S) (hO : mOK S) (hb : CM S (y - 1).toNat) (hz : Z40 S y) (hl : l < 2) (hy : 0 ≤ y ∧ y ≤ 299) : CT E 6 mX9_goDay [rf E 29 0 0, .int (iI (l : Int)), .int (iI y)] (hp E (wrM m S)) (none) (hp E (wrM m (gdS S l y))) := by
  refine CT.go okX9_goDay (Nat.le_of_ble_eq_true rfl) ?_
  show T E 6 mX9_goDay 0 [some (rf E 29 0 0), some (.int (iI (l : Int))), some (.int (iI y)), none] [] (hp E (wrM m S)) _
  refine T.aload_n dX9_goDay_0 rfl ?_
  refine T.iload_n dX9_goDay_1 rfl ?_
  refine T.cV0 (As := [.int (iI y)]) (st := []) dX9_goDay_2 lk_X9_172 (n_runOn E m S y hS hO hb hz hy) ok29 rfl rfl (by decide) rfl rfl (Nat.le_of_ble_eq_true rfl) ?_
  refine T.iconst dX9_goDay_5 ?_
  refine T.istore_n (ls' := [some (rf E 29 0 0), some (.int (iI (l : Int))), some (.int (iI y)), some (.int (iI 0))]) dX9_goDay_6 rfl ?_
  have h1 := rnS_cm hS hO hb hz hy
  have q2 : 0 ≤ S 29 2 ∧ S 29 2 ≤ 12 := hS 29 2 rfl
  have h0 := n_goDay_lp E m (rnS S y) l y h1.1 (hO.wf rnS_wf) hl hy (S 29 2).toNat (by rw [rnS_wf.2 2 (by decide)]; omega) _ 0 _ rfl (Nat.zero_le _) rfl
  exact h0
set_option maxHeartbeats 4000000 in
set_option maxRecDepth 100000 in
theorem n_goTo_lp (E : Ev) (m : Mem) (S : PS) (l : Nat) (y : Int) (hS : InvS kM S) (hO : mOK S) (hl : l < 2) (hy : 0 ≤ y ∧ y ≤ 299) : ∀ (k : Nat) (x : Nat) (D : PS), (y + 1).toNat - x = k → x ≤ (y + 1).toNat → D = mdS S l x → T E 7 mX9_goTo 6 [some (rf E 29 0 0), some (.int (iI (l : Int))), some (.int (iI y)), some (.int (iI (x : Int)))] [] (hp E (wrM m D)) (fun r' h' => r' = none ∧ h' = hp E (wrM m (mdS S l (y + 1).toNat))) := by
  intro k
  induction k using Nat.strongRecOn with
  | ind k ih =>
    intro x D hk hxy hD
    have i0 := md_ok (l := l) hS hO x (by omega)
    rw [← hD] at i0
    refine T.iload_n dX9_goTo_6 rfl ?_
    refine T.iload_n dX9_goTo_7 rfl ?_
    refine T.icmp_gt 23 dX9_goTo_8 (by unfold rg; omega) (by unfold rg; omega) (fun c1 => ?_) (fun c1 => ?_)
    · exact T.vret dX9_goTo_23 ⟨rfl, by rw [hD, show (y + 1).toNat = x from by omega]⟩
    · refine T.aload_n dX9_goTo_11 rfl ?_
      refine T.iload_n dX9_goTo_12 rfl ?_
      refine T.iload_n dX9_goTo_13 rfl ?_
      refine T.cV0 (As := [.int (iI (l : Int)), .int (iI (x : Int))]) (st := []) dX9_goTo_14 lk_X9_183 (n_goDay E m D l (x : Int) i0.1 (hO.wf i0.2.2.2) i0.2.1 i0.2.2.1 hl (by omega)) ok29 rfl rfl (by decide) rfl rfl (Nat.le_of_ble_eq_true rfl) ?_
      refine T.iinc (ls' := [some (rf E 29 0 0), some (.int (iI (l : Int))), some (.int (iI y)), some (.int (iI ((x : Int) + 1)))]) dX9_goTo_17 rfl rfl ?_
      refine T.goto 6 dX9_goTo_20 ?_
      exact ih ((y + 1).toNat - (x + 1)) (by omega) (x + 1) _ rfl (by omega) (by rw [hD]; rfl)
set_option maxHeartbeats 4000000 in
set_option maxRecDepth 100000 in
theorem n_goTo (E : Ev) (m : Mem) (S : PS) (l : Nat) (y : Int) (hS : InvS kM S) (hO : mOK S) (hl : l < 2) (hy : 0 ≤ y ∧ y ≤ 299) : CT E 7 mX9_goTo [rf E 29 0 0, .int (iI (l : Int)), .int (iI y)] (hp E (wrM m S)) (none) (hp E (wrM m (mdS S l (y + 1).toNat))) := by
  refine CT.go okX9_goTo (Nat.le_of_ble_eq_true rfl) ?_
  show T E 7 mX9_goTo 0 [some (rf E 29 0 0), some (.int (iI (l : Int))), some (.int (iI y)), none] [] (hp E (wrM m S)) _
  refine T.aload_n dX9_goTo_0 rfl ?_
  refine T.cV0 (As := []) (st := []) dX9_goTo_1 lk_X9_180 (n_begin E m S) ok29 rfl rfl (by decide) rfl rfl (Nat.le_of_ble_eq_true rfl) ?_
  refine T.iconst dX9_goTo_4 ?_
  refine T.istore_n (ls' := [some (rf E 29 0 0), some (.int (iI (l : Int))), some (.int (iI y)), some (.int (iI 0))]) dX9_goTo_5 rfl ?_
  exact n_goTo_lp E m S l y hS hO hl hy _ 0 _ rfl (Nat.zero_le _) rfl
set_option maxHeartbeats 4000000 in
set_option maxRecDepth 100000 in
theorem n_owedNow_lp (E : Ev) (m : Mem) (S : PS) (hS : InvS kM S) (n : Nat) (hn : S 29 0 = n) : ∀ (k : Nat) (d : Nat), n - d = k → d ≤ n → T E 2 mX9_owedNow 4 [some (rf E 29 0 0), some (.long (lI (owM S d))), none, some (.int (iI (d : Int)))] [] (hp E (wrM m S)) (fun r' h' => r' = some (.long (lI (owM S (S 29 0).toNat))) ∧ h' = (hp E (wrM m S))) := by
  have hn8 : 0 ≤ S 29 0 ∧ S 29 0 ≤ 8 := hS 29 0 rfl
  intro k
  induction k using Nat.strongRecOn with
  | ind k ih =>
    intro d hk hdn
    refine T.iload_n dX9_owedNow_4 rfl ?_
    refine T.aload_n dX9_owedNow_5 rfl ?_
    refine T.gI (z := S 29 0) dX9_owedNow_6 fo_X9_87 ok29 rfl rfl (wrM_c rfl) ?_
    have q1 : 0 ≤ S 29 0 ∧ S 29 0 ≤ 8 := hS 29 0 rfl
    refine T.icmp_ge 26 dX9_owedNow_9 (by unfold rg; omega) (by unfold rg; omega) (fun c2 => ?_) (fun c2 => ?_)
    · refine T.lload_n dX9_owedNow_26 rfl ?_
      exact T.lret dX9_owedNow_27 ⟨by rw [show (S 29 0).toNat = d from by omega], rfl⟩
    · refine T.lload_n dX9_owedNow_12 rfl ?_
      refine T.aload_n dX9_owedNow_13 rfl ?_
      refine T.iload_n dX9_owedNow_14 rfl ?_
      refine T.cV1 (As := [.int (iI (d : Int))]) (st := [.long (lI (owM S d))]) dX9_owedNow_15 lk_X9_137 (n_leftOf E m S d (by omega)) ok29 rfl rfl (by decide) rfl rfl (Nat.le_of_ble_eq_true rfl) ?_
      refine T.ladd dX9_owedNow_18 ?_
      refine T.lstore_n (ls' := [some (rf E 29 0 0), some (.long (lI ((owM S d) + (S 39 d + S 40 d)))), none, some (.int (iI (d : Int)))]) dX9_owedNow_19 rfl ?_
      refine T.iinc (ls' := [some (rf E 29 0 0), some (.long (lI ((owM S d) + (S 39 d + S 40 d)))), none, some (.int (iI ((d : Int) + 1)))]) dX9_owedNow_20 rfl rfl ?_
      refine T.goto 4 dX9_owedNow_23 ?_
      exact ih (n - (d + 1)) (by omega) (d + 1) rfl (by omega)
set_option maxHeartbeats 4000000 in
set_option maxRecDepth 100000 in
theorem n_owedNow (E : Ev) (m : Mem) (S : PS) (hS : InvS kM S) : CT E 2 mX9_owedNow [rf E 29 0 0] (hp E (wrM m S)) (some (.long (lI (owM S (S 29 0).toNat)))) (hp E (wrM m S)) := by
  refine CT.go okX9_owedNow (Nat.le_of_ble_eq_true rfl) ?_
  show T E 2 mX9_owedNow 0 [some (rf E 29 0 0), none, none, none] [] (hp E (wrM m S)) _
  have hn8 : 0 ≤ S 29 0 ∧ S 29 0 ≤ 8 := hS 29 0 rfl
  refine T.lconst0 dX9_owedNow_0 ?_
  refine T.lstore_n (ls' := [some (rf E 29 0 0), some (.long (lI 0)), none, none]) dX9_owedNow_1 rfl ?_
  refine T.iconst dX9_owedNow_2 ?_
  refine T.istore_n (ls' := [some (rf E 29 0 0), some (.long (lI 0)), none, some (.int (iI 0))]) dX9_owedNow_3 rfl ?_
  exact n_owedNow_lp E m S hS _ (Int.toNat_of_nonneg hn8.1).symm _ 0 rfl (Nat.zero_le _)
set_option maxHeartbeats 4000000 in
set_option maxRecDepth 100000 in
theorem n_owedOn (E : Ev) (m : Mem) (S : PS) (l : Nat) (y : Int) (hS : InvS kM S) (hO : mOK S) (hl : l < 2) (hy : 0 ≤ y ∧ y ≤ 299) : CT E 8 mX9_owedOn [rf E 29 0 0, .int (iI (l : Int)), .int (iI y)] (hp E (wrM m S)) (some (.long (lI (owM (mdS S l (y + 1).toNat) (S 29 0).toNat)))) (hp E (wrM m (mdS S l (y + 1).toNat))) := by
  refine CT.go okX9_owedOn (Nat.le_of_ble_eq_true rfl) ?_
  show T E 8 mX9_owedOn 0 [some (rf E 29 0 0), some (.int (iI (l : Int))), some (.int (iI y))] [] (hp E (wrM m S)) _
  refine T.aload_n dX9_owedOn_0 rfl ?_
  refine T.iload_n dX9_owedOn_1 rfl ?_
  refine T.iload_n dX9_owedOn_2 rfl ?_
  refine T.cV0 (As := [.int (iI (l : Int)), .int (iI y)]) (st := []) dX9_owedOn_3 lk_X9_186 (n_goTo E m S l y hS hO hl hy) ok29 rfl rfl (by decide) rfl rfl (Nat.le_of_ble_eq_true rfl) ?_
  refine T.aload_n dX9_owedOn_6 rfl ?_
  refine T.cV1 (As := []) (st := []) dX9_owedOn_7 lk_X9_189 (by have h0 := n_owedNow E m (mdS S l (y + 1).toNat) (md_ok hS hO _ (by omega)).1; rw [(md_ok hS hO _ (by omega)).2.2.2.2 0 (by decide)] at h0; exact h0) ok29 rfl rfl (by decide) rfl rfl (Nat.le_of_ble_eq_true rfl) ?_
  exact T.lret dX9_owedOn_10 ⟨rfl, rfl⟩
