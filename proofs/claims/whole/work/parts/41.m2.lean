/-- what the model's days change: kinds 39 .. 49, and what is over -/
def WF (S D : PS) : Prop := (∀ k, (k < 39 ∨ 49 < k) → k ≠ 29 → D k = S k) ∧ ∀ x, x ≠ 15 → D 29 x = S 29 x
theorem WF.rf {S : PS} : WF S S := ⟨fun _ _ _ => rfl, fun _ _ => rfl⟩
theorem WF.tr {S D F : PS} (h : WF S D) (g : WF D F) : WF S F := ⟨fun k h1 h2 => (g.1 k h1 h2).trans (h.1 k h1 h2), fun x hx => (g.2 x hx).trans (h.2 x hx)⟩
theorem WF.up {S D : PS} {k x : Nat} {v : Int} (h : WF S D) (hk : 39 ≤ k ∧ k ≤ 49) : WF S (upT D k x v) := by
  refine ⟨fun k' h1 h2 => ?_, fun x' hx => ?_⟩
  · funext x'
    rw [upT_k (by omega), h.1 k' h1 h2]
  · rw [upT_k (by omega), h.2 x' hx]
theorem WF.over {S D : PS} {v : Int} (h : WF S D) : WF S (upT D 29 15 v) := by
  refine ⟨fun k' h1 h2 => ?_, fun x' hx => ?_⟩
  · funext x'
    rw [upT_k h2, h.1 k' h1 h2]
  · rw [upT_x hx, h.2 x' hx]
theorem WF.set {S D : PS} {k : Nat} {g : Nat → Int} (h : WF S D) (hk : 39 ≤ k ∧ k ≤ 49) : WF S (setT D k g) := by
  refine ⟨fun k' h1 h2 => ?_, fun x' hx => ?_⟩
  · rw [setT_d (by omega), h.1 k' h1 h2]
  · rw [setT_d (by omega), h.2 x' hx]
/-- the model's book is as the document has it -/
def mOK (S : PS) : Prop := (∀ d : Nat, (d : Int) < S 29 0 → (0 ≤ S 31 (8 * d) ∧ S 31 (8 * d) ≤ 9999) ∧ (0 ≤ S 31 (8 * d + 1) ∧ S 31 (8 * d + 1) ≤ 299) ∧ (0 ≤ S 31 (8 * d + 3) ∧ S 31 (8 * d + 3) ≤ 99)) ∧ ∀ p : Nat, (p : Int) < S 29 2 → (0 ≤ S 33 (4 * p) ∧ S 33 (4 * p) ≤ 299) ∧ (0 ≤ S 33 (4 * p + 1) ∧ S 33 (4 * p + 1) ≤ 9999) ∧ (-1 ≤ S 33 (4 * p + 2) ∧ S 33 (4 * p + 2) ≤ 7) ∧ (-1 ≤ S 33 (4 * p + 3) ∧ S 33 (4 * p + 3) ≤ 7)
theorem mOK.wf {S D : PS} (h : mOK S) (g : WF S D) : mOK D := by
  unfold mOK
  rw [g.1 31 (by decide) (by decide), g.1 33 (by decide) (by decide), g.2 0 (by decide), g.2 2 (by decide)]
  exact h
/-- sums and what has run, by the day -/
def CM (S : PS) (t : Nat) : Prop := ∀ d, d < 8 → S 39 d + S 40 d ≤ bnd t
def begL (S : PS) : Nat → PS
  | 0 => S
  | d + 1 => upT (upT (upT (upT (begL S d) 39 d 0) 40 d 0) 41 d (-1)) 42 d (-4)
def begS (S : PS) : PS := begL S 8
set_option maxHeartbeats 4000000 in
set_option maxRecDepth 100000 in
theorem n_begin_lp (E : Ev) (m : Mem) (S : PS) : ∀ (k : Nat) (d : Nat) (D : PS), 8 - d = k → d ≤ 8 → D = begL S d → T E 1 mX9_beginDays 2 [some (rf E 29 0 0), some (.int (iI (d : Int)))] [] (hp E (wrM m D)) (fun r' h' => r' = none ∧ h' = hp E (wrM m (begS S))) := by
  intro k
  induction k using Nat.strongRecOn with
  | ind k ih =>
    intro d D hk hd hD
    refine T.iload_n dX9_beginDays_2 rfl ?_
    refine T.bipush dX9_beginDays_3 ?_
    refine T.icmp_ge 43 dX9_beginDays_5 (by unfold rg; omega) (by unfold rg; omega) (fun c1 => ?_) (fun c1 => ?_)
    · obtain rfl : d = 8 := by omega
      exact T.vret dX9_beginDays_43 ⟨rfl, by rw [hD]; rfl⟩
    · refine T.aload_n dX9_beginDays_8 rfl ?_
      refine T.mget (v := rf E 39 0 0) dX9_beginDays_9 fo_X9_28 ok29 rfl rfl ?_
      refine T.iload_n dX9_beginDays_12 rfl ?_
      refine T.lconst0 dX9_beginDays_13 ?_
      refine T.nlst (x := d) dX9_beginDays_14 rfl ok39 (fun _ => rfl) rfl (by omega) ?_
      refine T.aload_n dX9_beginDays_15 rfl ?_
      refine T.mget (v := rf E 40 0 0) dX9_beginDays_16 fo_X9_32 ok29 rfl rfl ?_
      refine T.iload_n dX9_beginDays_19 rfl ?_
      refine T.lconst0 dX9_beginDays_20 ?_
      refine T.nlst (x := d) dX9_beginDays_21 rfl ok40 (fun _ => rfl) rfl (by omega) ?_
      refine T.aload_n dX9_beginDays_22 rfl ?_
      refine T.mget (v := rf E 41 0 0) dX9_beginDays_23 fo_X9_35 ok29 rfl rfl ?_
      refine T.iload_n dX9_beginDays_26 rfl ?_
      refine T.iconst dX9_beginDays_27 ?_
      refine T.nist (x := d) dX9_beginDays_28 rfl ok41 (fun _ => rfl) rfl (by omega) ?_
      refine T.aload_n dX9_beginDays_29 rfl ?_
      refine T.mget (v := rf E 42 0 0) dX9_beginDays_30 fo_X9_38 ok29 rfl rfl ?_
      refine T.iload_n dX9_beginDays_33 rfl ?_
      refine T.bipush dX9_beginDays_34 ?_
      refine T.nist (x := d) dX9_beginDays_36 rfl ok42 (fun _ => rfl) rfl (by omega) ?_
      refine T.iinc (ls' := [some (rf E 29 0 0), some (.int (iI ((d : Int) + 1)))]) dX9_beginDays_37 rfl rfl ?_
      refine T.goto 2 dX9_beginDays_40 ?_
      exact ih (8 - (d + 1)) (by omega) (d + 1) _ rfl (by omega) (by rw [hD]; rfl)
set_option maxHeartbeats 4000000 in
set_option maxRecDepth 100000 in
theorem n_begin (E : Ev) (m : Mem) (S : PS) : CT E 1 mX9_beginDays [rf E 29 0 0] (hp E (wrM m S)) (none) (hp E (wrM m (begS S))) := by
  refine CT.go okX9_beginDays (Nat.le_of_ble_eq_true rfl) ?_
  show T E 1 mX9_beginDays 0 [some (rf E 29 0 0), none] [] (hp E (wrM m S)) _
  refine T.iconst dX9_beginDays_0 ?_
  refine T.istore_n (ls' := [some (rf E 29 0 0), some (.int (iI 0))]) dX9_beginDays_1 rfl ?_
  exact n_begin_lp E m S _ 0 _ rfl (by omega) rfl
theorem begL_wf {S : PS} : ∀ n, WF S (begL S n)
  | 0 => WF.rf
  | n + 1 => ((((begL_wf n).up (by decide)).up (by decide)).up (by decide)).up (by decide)
theorem begL_inv {S : PS} (h : InvS kM S) : ∀ n, InvS kM (begL S n)
  | 0 => h
  | n + 1 => ((((begL_inv h n).up (by show 0 ≤ _ ∧ _ ≤ (99990000 : Int); omega)).up (by show 0 ≤ _ ∧ _ ≤ (4000000000 : Int); omega)).up (by show -1 ≤ _ ∧ _ ≤ (299 : Int); omega)).up (by show -4 ≤ _ ∧ _ ≤ (299 : Int); omega)
theorem begL_at {S : PS} : ∀ n x, x < n → begL S n 39 x = 0 ∧ begL S n 40 x = 0 ∧ begL S n 41 x = -1 ∧ begL S n 42 x = -4
  | 0, x, h => by omega
  | n + 1, x, h => by
    by_cases e : x = n
    · subst e
      simp [begL, upT]
    · have := begL_at (S := S) n x (by omega)
      simpa [begL, upT, e] using this
theorem begS_cm {S : PS} : CM (begS S) 0 := fun d hd => by
  have h := begL_at (S := S) 8 d hd
  have := (bnd_mono 0 0 (Nat.le_refl _)).2
  show begL S 8 39 d + begL S 8 40 d ≤ _
  omega
def rn1 (S : PS) (y : Int) (d : Nat) : PS := if S 31 (8 * d + 1) = y then upT S 39 d (10000 * S 31 (8 * d)) else if S 31 (8 * d + 1) < y then upT S 40 d (S 40 d + (if S 31 (8 * d + 4) = 1 then S 39 d + S 40 d else S 39 d) * S 31 (8 * d + 3) / 10000) else S
def rnL (S : PS) (y : Int) : Nat → PS
  | 0 => S
  | d + 1 => rn1 (rnL S y d) y d
def rnS (S : PS) (y : Int) : PS := rnL S y (S 29 0).toNat
theorem rn1_wf {S : PS} {y : Int} {d : Nat} : WF S (rn1 S y d) := by
  unfold rn1
  split
  · exact WF.rf.up (by decide)
  · split
    · exact WF.rf.up (by decide)
    · exact WF.rf
theorem rnL_wf {S : PS} {y : Int} : ∀ n, WF S (rnL S y n)
  | 0 => WF.rf
  | n + 1 => (rnL_wf n).tr rn1_wf
theorem rn1_x {S : PS} {y : Int} {d x : Nat} {k : Nat} (h : x ≠ d) : rn1 S y d k x = S k x := by
  unfold rn1
  split
  · rw [upT_x h]
  · split
    · rw [upT_x h]
    · rfl
theorem rnL_x {S : PS} {y : Int} {k : Nat} : ∀ n x, n ≤ x → rnL S y n k x = S k x
  | 0, _, _ => rfl
  | n + 1, x, h => by
    show rn1 (rnL S y n) y n k x = _
    rw [rn1_x (by omega), rnL_x n x (by omega)]
theorem rn1_bd {S : PS} {y : Int} {d t : Nat} (hS : InvS kM S) (h0 : 0 ≤ S 31 (8 * d) ∧ S 31 (8 * d) ≤ 9999) (h1 : 0 ≤ S 31 (8 * d + 1)) (h3 : 0 ≤ S 31 (8 * d + 3) ∧ S 31 (8 * d + 3) ≤ 99) (hb : S 39 d + S 40 d ≤ bnd (y - 1).toNat) (hz : S 31 (8 * d + 1) = y → S 40 d = 0) (hy : 0 ≤ y ∧ y ≤ 299) : InvS kM (rn1 S y d) ∧ rn1 S y d 39 d + rn1 S y d 40 d ≤ bnd y.toNat := by
  have q1 : 0 ≤ S 39 d ∧ S 39 d ≤ 99990000 := hS 39 d rfl
  have q2 : 0 ≤ S 40 d ∧ S 40 d ≤ 4000000000 := hS 40 d rfl
  have m1 := (bnd_mono (y - 1).toNat y.toNat (by omega)).1
  have m2 := (bnd_mono y.toNat 299 (by omega)).1
  have m3 := bnd_299
  have m4 := (bnd_mono 0 y.toNat (by omega)).1
  have m5 : bnd 0 = 99990000 := rfl
  unfold rn1
  split
  · rename_i e
    have := hz e
    refine ⟨hS.up (by show 0 ≤ _ ∧ _ ≤ (99990000 : Int); omega), ?_⟩
    rw [upT_self, upT_k (by decide)]
    omega
  · split
    · have m6 : bnd y.toNat = bnd (y - 1).toNat + bnd (y - 1).toNat / 100 := by
        rw [show y.toNat = (y - 1).toNat + 1 by omega]; rfl
      have key : ∀ b : Int, 0 ≤ b → b ≤ S 39 d + S 40 d → 0 ≤ b * S 31 (8 * d + 3) / 10000 ∧ b * S 31 (8 * d + 3) / 10000 ≤ bnd (y - 1).toNat / 100 := by
        intro b hb0 hb1
        have e1 : b * S 31 (8 * d + 3) ≤ b * 99 := Int.mul_le_mul_of_nonneg_left h3.2 hb0
        have e2 : 0 ≤ b * S 31 (8 * d + 3) := Int.mul_nonneg hb0 h3.1
        omega
      have k2 : 0 ≤ (if S 31 (8 * d + 4) = 1 then S 39 d + S 40 d else S 39 d) ∧ (if S 31 (8 * d + 4) = 1 then S 39 d + S 40 d else S 39 d) ≤ S 39 d + S 40 d := by split <;> omega
      have k3 := key _ k2.1 k2.2
      refine ⟨hS.up (by show 0 ≤ _ ∧ _ ≤ (4000000000 : Int); omega), ?_⟩
      rw [upT_k (by decide), upT_self]
      omega
    · exact ⟨hS, by omega⟩
/-- ahead of its day nothing of a debt has run -/
def Z40 (S : PS) (y : Int) : Prop := ∀ d : Nat, (d : Int) < S 29 0 → y ≤ S 31 (8 * d + 1) → S 40 d = 0
theorem rnL_bd {S : PS} {y : Int} (hS : InvS kM S) (hO : mOK S) (hb : CM S (y - 1).toNat) (hz : Z40 S y) (hy : 0 ≤ y ∧ y ≤ 299) : ∀ n, n ≤ (S 29 0).toNat → InvS kM (rnL S y n) ∧ (∀ d, d < n → rnL S y n 39 d + rnL S y n 40 d ≤ bnd y.toNat)
  | 0, _ => ⟨hS, fun d h => by omega⟩
  | n + 1, hn => by
    obtain ⟨i1, i2⟩ := rnL_bd hS hO hb hz hy n (by omega)
    have q0 : 0 ≤ S 29 0 ∧ S 29 0 ≤ 8 := hS 29 0 rfl
    have e31 : rnL S y n 31 = S 31 := (rnL_wf n).1 31 (by decide) (by decide)
    have ho := hO.1 n (by omega)
    have r := rn1_bd (S := rnL S y n) (y := y) (d := n) (t := 0) i1 (by rw [e31]; exact ho.1) (by rw [e31]; exact ho.2.1.1) (by rw [e31]; exact ho.2.2) (by rw [rnL_x n n (Nat.le_refl _), rnL_x n n (Nat.le_refl _)]; exact hb n (by omega)) (by rw [e31, rnL_x n n (Nat.le_refl _)]; intro h; exact hz n (by omega) (by omega)) hy
    refine ⟨r.1, fun d hd => ?_⟩
    show rn1 (rnL S y n) y n 39 d + rn1 (rnL S y n) y n 40 d ≤ _
    by_cases e : d = n
    · subst e; exact r.2
    · rw [rn1_x e, rn1_x e]; exact i2 d (by omega)
theorem rnS_cm {S : PS} {y : Int} (hS : InvS kM S) (hO : mOK S) (hb : CM S (y - 1).toNat) (hz : Z40 S y) (hy : 0 ≤ y ∧ y ≤ 299) : InvS kM (rnS S y) ∧ CM (rnS S y) y.toNat := by
  have r := rnL_bd hS hO hb hz hy _ (Nat.le_refl _)
  refine ⟨r.1, fun d hd => ?_⟩
  by_cases h : d < (S 29 0).toNat
  · exact r.2 d h
  · show rnL S y _ 39 d + rnL S y _ 40 d ≤ _
    rw [rnL_x _ d (by omega), rnL_x _ d (by omega)]
    have := hb d hd
    have := (bnd_mono (y - 1).toNat y.toNat (by omega)).1
    omega
set_option maxHeartbeats 4000000 in
set_option maxRecDepth 100000 in
theorem n_runOn_lp (E : Ev) (m : Mem) (S : PS) (y : Int) (hS : InvS kM S) (hO : mOK S) (hb : CM S (y - 1).toNat) (hz : Z40 S y) (hy : 0 ≤ y ∧ y ≤ 299) (n : Nat) (hn : S 29 0 = n) : ∀ (k : Nat) (d : Nat) (D : PS), n - d = k → d ≤ n → D = rnL S y d → InvS kM D → T E 1 mX9_runOn 2 [some (rf E 29 0 0), some (.int (iI y)), some (.int (iI (d : Int))), none, none] [] (hp E (wrM m D)) (fun r' h' => r' = none ∧ h' = hp E (wrM m (rnS S y))) := by
  have hn8 : 0 ≤ S 29 0 ∧ S 29 0 ≤ 8 := hS 29 0 rfl
  intro k
  induction k using Nat.strongRecOn with
  | ind k ih =>
    intro d D hk hd hD hDI
    have hw := rnL_wf (S := S) (y := y) d
    rw [← hD] at hw
    have e31 : D 31 = S 31 := hw.1 31 (by decide) (by decide)
    have e290 : D 29 0 = S 29 0 := hw.2 0 (by decide)
    have q1 : 0 ≤ D 39 d ∧ D 39 d ≤ 99990000 := hDI 39 d rfl
    have q2 : 0 ≤ D 40 d ∧ D 40 d ≤ 4000000000 := hDI 40 d rfl
    have q3 : (d : Int) < S 29 0 → (0 ≤ D 31 (8 * d) ∧ D 31 (8 * d) ≤ 9999) ∧ (0 ≤ D 31 (8 * d + 1) ∧ D 31 (8 * d + 1) ≤ 299) ∧ (0 ≤ D 31 (8 * d + 3) ∧ D 31 (8 * d + 3) ≤ 99) := by rw [e31]; exact hO.1 d
    refine T.iload_n dX9_runOn_2 rfl ?_
    refine T.aload_n dX9_runOn_3 rfl ?_
    refine T.gI (z := D 29 0) dX9_runOn_4 fo_X9_87 ok29 rfl rfl (wrM_c rfl) ?_
    have q1 : 0 ≤ D 29 0 ∧ D 29 0 ≤ 8 := hDI 29 0 rfl
    refine T.icmp_ge 134 dX9_runOn_7 (by unfold rg; omega) (by unfold rg; omega) (fun c2 => ?_) (fun c2 => ?_)
    · exact T.vret dX9_runOn_134 ⟨rfl, by rw [hD]; unfold rnS; rw [show d = (S 29 0).toNat from by omega]⟩
    · have q4 := q3 (by omega)
      refine T.aload_n dX9_runOn_10 rfl ?_
      refine T.mget (v := rf E 31 0 0) dX9_runOn_11 fo_X9_7 ok29 rfl rfl ?_
      refine T.bipush dX9_runOn_14 ?_
      refine T.iload_n dX9_runOn_16 rfl ?_
      refine T.imul dX9_runOn_17 ?_
      refine T.iconst dX9_runOn_18 ?_
      refine T.iadd dX9_runOn_19 ?_
      refine T.aI (z := D 31 ((8 * d) + 1)) (x := (8 * d) + 1) dX9_runOn_20 ok31 (fun _ => rfl) (by omega) (by omega) (wrM_c rfl) ?_
      have q3 : -1 ≤ D 31 ((8 * d) + 1) ∧ D 31 ((8 * d) + 1) ≤ 9999 := hDI 31 ((8 * d) + 1) rfl
      refine T.iload_n dX9_runOn_21 rfl ?_
      refine T.icmp_ne 48 dX9_runOn_22 (by unfold rg; omega) (by unfold rg; omega) (fun c4 => ?_) (fun c4 => ?_)
      · refine T.aload_n dX9_runOn_48 rfl ?_
        refine T.mget (v := rf E 31 0 0) dX9_runOn_49 fo_X9_7 ok29 rfl rfl ?_
        refine T.bipush dX9_runOn_52 ?_
        refine T.iload_n dX9_runOn_54 rfl ?_
        refine T.imul dX9_runOn_55 ?_
        refine T.iconst dX9_runOn_56 ?_
        refine T.iadd dX9_runOn_57 ?_
        refine T.aI (z := D 31 ((8 * d) + 1)) (x := (8 * d) + 1) dX9_runOn_58 ok31 (fun _ => rfl) (by omega) (by omega) (wrM_c rfl) ?_
        refine T.iload_n dX9_runOn_59 rfl ?_
        refine T.icmp_ge 128 dX9_runOn_60 (by unfold rg; omega) (by unfold rg; omega) (fun c5 => ?_) (fun c5 => ?_)
        · refine T.iinc (ls' := [some (rf E 29 0 0), some (.int (iI y)), some (.int (iI ((d : Int) + 1))), none, none]) dX9_runOn_128 rfl rfl ?_
          refine T.goto 2 dX9_runOn_131 ?_
          have hq : rnL S y (d + 1) = D := by
            show rn1 (rnL S y d) y d = _
            rw [← hD]
            unfold rn1
            rw [if_neg (by omega), if_neg (by omega)]
          exact ih (n - (d + 1)) (by omega) (d + 1) _ rfl (by omega) hq.symm (by rw [← hq]; exact (rnL_bd hS hO hb hz hy (d + 1) (by omega)).1)
        · refine T.aload_n dX9_runOn_63 rfl ?_
          refine T.mget (v := rf E 31 0 0) dX9_runOn_64 fo_X9_7 ok29 rfl rfl ?_
          refine T.bipush dX9_runOn_67 ?_
          refine T.iload_n dX9_runOn_69 rfl ?_
          refine T.imul dX9_runOn_70 ?_
          refine T.iconst dX9_runOn_71 ?_
          refine T.iadd dX9_runOn_72 ?_
          refine T.aI (z := D 31 ((8 * d) + 4)) (x := (8 * d) + 4) dX9_runOn_73 ok31 (fun _ => rfl) (by omega) (by omega) (wrM_c rfl) ?_
          have q6 : -1 ≤ D 31 ((8 * d) + 4) ∧ D 31 ((8 * d) + 4) ≤ 9999 := hDI 31 ((8 * d) + 4) rfl
          refine T.iconst dX9_runOn_74 ?_
          refine T.icmp_ne 94 dX9_runOn_75 (by unfold rg; omega) (by unfold rg; omega) (fun c7 => ?_) (fun c7 => ?_)
          · refine T.aload_n dX9_runOn_94 rfl ?_
            refine T.mget (v := rf E 39 0 0) dX9_runOn_95 fo_X9_28 ok29 rfl rfl ?_
            refine T.iload_n dX9_runOn_98 rfl ?_
            refine T.aL (z := D 39 d) (x := d) dX9_runOn_99 ok39 (fun _ => rfl) rfl (by omega) (wrM_c rfl) ?_
            have q8 : 0 ≤ D 39 d ∧ D 39 d ≤ 99990000 := hDI 39 d rfl
            refine T.lstore_n (ls' := [some (rf E 29 0 0), some (.int (iI y)), some (.int (iI (d : Int))), some (.long (lI (D 39 d))), none]) dX9_runOn_100 rfl ?_
            refine T.aload_n dX9_runOn_101 rfl ?_
            refine T.mget (v := rf E 40 0 0) dX9_runOn_102 fo_X9_32 ok29 rfl rfl ?_
            refine T.iload_n dX9_runOn_105 rfl ?_
            refine T.dup2 dX9_runOn_106 ?_
            refine T.aL (z := D 40 d) (x := d) dX9_runOn_107 ok40 (fun _ => rfl) rfl (by omega) (wrM_c rfl) ?_
            have q9 : 0 ≤ D 40 d ∧ D 40 d ≤ 4000000000 := hDI 40 d rfl
            refine T.lload_n dX9_runOn_108 rfl ?_
            refine T.aload_n dX9_runOn_109 rfl ?_
            refine T.mget (v := rf E 31 0 0) dX9_runOn_110 fo_X9_7 ok29 rfl rfl ?_
            refine T.bipush dX9_runOn_113 ?_
            refine T.iload_n dX9_runOn_115 rfl ?_
            refine T.imul dX9_runOn_116 ?_
            refine T.iconst dX9_runOn_117 ?_
            refine T.iadd dX9_runOn_118 ?_
            refine T.aI (z := D 31 ((8 * d) + 3)) (x := (8 * d) + 3) dX9_runOn_119 ok31 (fun _ => rfl) (by omega) (by omega) (wrM_c rfl) ?_
            have q10 : -1 ≤ D 31 ((8 * d) + 3) ∧ D 31 ((8 * d) + 3) ≤ 9999 := hDI 31 ((8 * d) + 3) rfl
            refine T.i2l dX9_runOn_120 (by unfold rg; omega) ?_
            have e1 := Int.mul_le_mul_of_nonneg_left q4.2.2.2 (show 0 ≤ D 39 d by omega)
            have e2 := Int.mul_nonneg (show 0 ≤ D 39 d by omega) q4.2.2.1
            refine T.lmul dX9_runOn_121 ?_
            refine T.ldc2 dX9_runOn_122 kl_X9_135 ?_
            refine T.ldiv dX9_runOn_125 (by unfold rl; omega) (by unfold rl; omega) (by omega) (by omega) ?_
            refine T.ladd dX9_runOn_126 ?_
            refine T.nlst (x := d) dX9_runOn_127 rfl ok40 (fun _ => rfl) rfl (by omega) ?_
            refine T.iinc (ls' := [some (rf E 29 0 0), some (.int (iI y)), some (.int (iI ((d : Int) + 1))), some (.long (lI (D 39 d))), none]) dX9_runOn_128 rfl rfl ?_
            refine T.goto 2 dX9_runOn_131 ?_
            refine T.fgt (ls' := [some (rf E 29 0 0), some (.int (iI y)), some (.int (iI ((d : Int) + 1))), none, none]) (by simp [lsw]) ?_
            have hq : rnL S y (d + 1) = (upT D 40 d ((D 40 d) + (((D 39 d) * (D 31 ((8 * d) + 3))) / 10000))) := by
              show rn1 (rnL S y d) y d = _
              rw [← hD]
              unfold rn1
              rw [if_neg (by omega), if_pos (by omega), if_neg (by omega)]
            exact ih (n - (d + 1)) (by omega) (d + 1) _ rfl (by omega) hq.symm (by rw [← hq]; exact (rnL_bd hS hO hb hz hy (d + 1) (by omega)).1)
          · refine T.aload_n dX9_runOn_78 rfl ?_
            refine T.mget (v := rf E 39 0 0) dX9_runOn_79 fo_X9_28 ok29 rfl rfl ?_
            refine T.iload_n dX9_runOn_82 rfl ?_
            refine T.aL (z := D 39 d) (x := d) dX9_runOn_83 ok39 (fun _ => rfl) rfl (by omega) (wrM_c rfl) ?_
            have q11 : 0 ≤ D 39 d ∧ D 39 d ≤ 99990000 := hDI 39 d rfl
            refine T.aload_n dX9_runOn_84 rfl ?_
            refine T.mget (v := rf E 40 0 0) dX9_runOn_85 fo_X9_32 ok29 rfl rfl ?_
            refine T.iload_n dX9_runOn_88 rfl ?_
            refine T.aL (z := D 40 d) (x := d) dX9_runOn_89 ok40 (fun _ => rfl) rfl (by omega) (wrM_c rfl) ?_
            have q12 : 0 ≤ D 40 d ∧ D 40 d ≤ 4000000000 := hDI 40 d rfl
            refine T.ladd dX9_runOn_90 ?_
            refine T.goto 100 dX9_runOn_91 ?_
            refine T.lstore_n (ls' := [some (rf E 29 0 0), some (.int (iI y)), some (.int (iI (d : Int))), some (.long (lI ((D 39 d) + (D 40 d)))), none]) dX9_runOn_100 rfl ?_
            refine T.aload_n dX9_runOn_101 rfl ?_
            refine T.mget (v := rf E 40 0 0) dX9_runOn_102 fo_X9_32 ok29 rfl rfl ?_
            refine T.iload_n dX9_runOn_105 rfl ?_
            refine T.dup2 dX9_runOn_106 ?_
            refine T.aL (z := D 40 d) (x := d) dX9_runOn_107 ok40 (fun _ => rfl) rfl (by omega) (wrM_c rfl) ?_
            refine T.lload_n dX9_runOn_108 rfl ?_
            refine T.aload_n dX9_runOn_109 rfl ?_
            refine T.mget (v := rf E 31 0 0) dX9_runOn_110 fo_X9_7 ok29 rfl rfl ?_
            refine T.bipush dX9_runOn_113 ?_
            refine T.iload_n dX9_runOn_115 rfl ?_
            refine T.imul dX9_runOn_116 ?_
            refine T.iconst dX9_runOn_117 ?_
            refine T.iadd dX9_runOn_118 ?_
            refine T.aI (z := D 31 ((8 * d) + 3)) (x := (8 * d) + 3) dX9_runOn_119 ok31 (fun _ => rfl) (by omega) (by omega) (wrM_c rfl) ?_
            have q13 : -1 ≤ D 31 ((8 * d) + 3) ∧ D 31 ((8 * d) + 3) ≤ 9999 := hDI 31 ((8 * d) + 3) rfl
            refine T.i2l dX9_runOn_120 (by unfold rg; omega) ?_
            have e1 := Int.mul_le_mul_of_nonneg_left q4.2.2.2 (show 0 ≤ (D 39 d) + (D 40 d) by omega)
            have e2 := Int.mul_nonneg (show 0 ≤ (D 39 d) + (D 40 d) by omega) q4.2.2.1
            refine T.lmul dX9_runOn_121 ?_
            refine T.ldc2 dX9_runOn_122 kl_X9_135 ?_
            refine T.ldiv dX9_runOn_125 (by unfold rl; omega) (by unfold rl; omega) (by omega) (by omega) ?_
            refine T.ladd dX9_runOn_126 ?_
            refine T.nlst (x := d) dX9_runOn_127 rfl ok40 (fun _ => rfl) rfl (by omega) ?_
            refine T.iinc (ls' := [some (rf E 29 0 0), some (.int (iI y)), some (.int (iI ((d : Int) + 1))), some (.long (lI ((D 39 d) + (D 40 d)))), none]) dX9_runOn_128 rfl rfl ?_
            refine T.goto 2 dX9_runOn_131 ?_
            refine T.fgt (ls' := [some (rf E 29 0 0), some (.int (iI y)), some (.int (iI ((d : Int) + 1))), none, none]) (by simp [lsw]) ?_
            have hq : rnL S y (d + 1) = (upT D 40 d ((D 40 d) + ((((D 39 d) + (D 40 d)) * (D 31 ((8 * d) + 3))) / 10000))) := by
              show rn1 (rnL S y d) y d = _
              rw [← hD]
              unfold rn1
              rw [if_neg (by omega), if_pos (by omega), if_pos (by omega)]
            exact ih (n - (d + 1)) (by omega) (d + 1) _ rfl (by omega) hq.symm (by rw [← hq]; exact (rnL_bd hS hO hb hz hy (d + 1) (by omega)).1)
      · refine T.aload_n dX9_runOn_25 rfl ?_
        refine T.mget (v := rf E 39 0 0) dX9_runOn_26 fo_X9_28 ok29 rfl rfl ?_
        refine T.iload_n dX9_runOn_29 rfl ?_
        refine T.ldc2 dX9_runOn_30 kl_X9_135 ?_
        refine T.aload_n dX9_runOn_33 rfl ?_
        refine T.mget (v := rf E 31 0 0) dX9_runOn_34 fo_X9_7 ok29 rfl rfl ?_
        refine T.bipush dX9_runOn_37 ?_
        refine T.iload_n dX9_runOn_39 rfl ?_
        refine T.imul dX9_runOn_40 ?_
        refine T.aI (z := D 31 (8 * d)) (x := 8 * d) dX9_runOn_41 ok31 (fun _ => rfl) (by omega) (by omega) (wrM_c rfl) ?_
        have q14 : -1 ≤ D 31 (8 * d) ∧ D 31 (8 * d) ≤ 9999 := hDI 31 (8 * d) rfl
        refine T.i2l dX9_runOn_42 (by unfold rg; omega) ?_
        refine T.lmul dX9_runOn_43 ?_
        refine T.nlst (x := d) dX9_runOn_44 rfl ok39 (fun _ => rfl) rfl (by omega) ?_
        refine T.goto 128 dX9_runOn_45 ?_
        refine T.iinc (ls' := [some (rf E 29 0 0), some (.int (iI y)), some (.int (iI ((d : Int) + 1))), none, none]) dX9_runOn_128 rfl rfl ?_
        refine T.goto 2 dX9_runOn_131 ?_
        have hq : rnL S y (d + 1) = (upT D 39 d (10000 * (D 31 (8 * d)))) := by
          show rn1 (rnL S y d) y d = _
          rw [← hD]
          unfold rn1
          rw [if_pos (by omega)]
        exact ih (n - (d + 1)) (by omega) (d + 1) _ rfl (by omega) hq.symm (by rw [← hq]; exact (rnL_bd hS hO hb hz hy (d + 1) (by omega)).1)
set_option maxHeartbeats 4000000 in
set_option maxRecDepth 100000 in
theorem n_runOn (E : Ev) (m : Mem) (S : PS) (y : Int) (hS : InvS kM S) (hO : mOK S) (hb : CM S (y - 1).toNat) (hz : Z40 S y) (hy : 0 ≤ y ∧ y ≤ 299) : CT E 1 mX9_runOn [rf E 29 0 0, .int (iI y)] (hp E (wrM m S)) (none) (hp E (wrM m (rnS S y))) := by
  refine CT.go okX9_runOn (Nat.le_of_ble_eq_true rfl) ?_
  show T E 1 mX9_runOn 0 [some (rf E 29 0 0), some (.int (iI y)), none, none, none] [] (hp E (wrM m S)) _
  have hn8 : 0 ≤ S 29 0 ∧ S 29 0 ≤ 8 := hS 29 0 rfl
  refine T.iconst dX9_runOn_0 ?_
  refine T.istore_n (ls' := [some (rf E 29 0 0), some (.int (iI y)), some (.int (iI 0)), none, none]) dX9_runOn_1 rfl ?_
  exact n_runOn_lp E m S y hS hO hb hz hy _ (Int.toNat_of_nonneg hn8.1).symm _ 0 S rfl (Nat.zero_le _) rfl hS
abbrev dyM (S : PS) (d : Nat) (y : Int) : Prop := 0 < S 39 d + S 40 d ∧ 0 < S 31 (8 * d + 7) ∧ S 31 (8 * d + 7) < y - max (S 31 (8 * d + 2)) (S 41 d)
set_option maxHeartbeats 4000000 in
set_option maxRecDepth 100000 in
theorem n_isDead (E : Ev) (m : Mem) (S : PS) (d : Nat) (y : Int) (hS : InvS kM S) (hd : d < 8) (hy : 0 ≤ y ∧ y ≤ 299) : CT E 2 mX9_isDead [rf E 29 0 0, .int (iI (d : Int)), .int (iI y)] (hp E (wrM m S)) (some (.int (iI (bZ (dyM S d y))))) (hp E (wrM m S)) := by
  refine CT.go okX9_isDead (Nat.le_of_ble_eq_true rfl) ?_
  show T E 2 mX9_isDead 0 [some (rf E 29 0 0), some (.int (iI (d : Int))), some (.int (iI y)), none] [] (hp E (wrM m S)) _
  have b39 : 0 ≤ S 39 d ∧ S 39 d ≤ 99990000 := hS 39 d rfl
  have b40 : 0 ≤ S 40 d ∧ S 40 d ≤ 4000000000 := hS 40 d rfl
  refine T.aload_n dX9_isDead_0 rfl ?_
  refine T.mget (v := rf E 31 0 0) dX9_isDead_1 fo_X9_7 ok29 rfl rfl ?_
  refine T.bipush dX9_isDead_4 ?_
  refine T.iload_n dX9_isDead_6 rfl ?_
  refine T.imul dX9_isDead_7 ?_
  refine T.iconst dX9_isDead_8 ?_
  refine T.iadd dX9_isDead_9 ?_
  refine T.aI (z := S 31 ((8 * d) + 2)) (x := (8 * d) + 2) dX9_isDead_10 ok31 (fun _ => rfl) (by omega) (by omega) (wrM_c rfl) ?_
  have q1 : -1 ≤ S 31 ((8 * d) + 2) ∧ S 31 ((8 * d) + 2) ≤ 9999 := hS 31 ((8 * d) + 2) rfl
  refine T.aload_n dX9_isDead_11 rfl ?_
  refine T.mget (v := rf E 41 0 0) dX9_isDead_12 fo_X9_35 ok29 rfl rfl ?_
  refine T.iload_n dX9_isDead_15 rfl ?_
  refine T.aI (z := S 41 d) (x := d) dX9_isDead_16 ok41 (fun _ => rfl) rfl (by omega) (wrM_c rfl) ?_
  have q2 : -1 ≤ S 41 d ∧ S 41 d ≤ 299 := hS 41 d rfl
  refine T.icmp_le 34 dX9_isDead_17 (by unfold rg; omega) (by unfold rg; omega) (fun c3 => ?_) (fun c3 => ?_)
  · refine T.aload_n dX9_isDead_34 rfl ?_
    refine T.mget (v := rf E 41 0 0) dX9_isDead_35 fo_X9_35 ok29 rfl rfl ?_
    refine T.iload_n dX9_isDead_38 rfl ?_
    refine T.aI (z := S 41 d) (x := d) dX9_isDead_39 ok41 (fun _ => rfl) rfl (by omega) (wrM_c rfl) ?_
    refine T.istore_n (ls' := [some (rf E 29 0 0), some (.int (iI (d : Int))), some (.int (iI y)), some (.int (iI (S 41 d)))]) dX9_isDead_40 rfl ?_
    refine T.aload_n dX9_isDead_41 rfl ?_
    refine T.iload_n dX9_isDead_42 rfl ?_
    refine T.cV1 (As := [.int (iI (d : Int))]) (st := []) dX9_isDead_43 lk_X9_137 (n_leftOf E m S d (by omega)) ok29 rfl rfl (by decide) rfl rfl (Nat.le_of_ble_eq_true rfl) ?_
    refine T.lconst0 dX9_isDead_46 ?_
    refine T.lcmp_le 88 dX9_isDead_47 dX9_isDead_48 (by unfold rl; omega) (by unfold rl; omega) (fun c4 => ?_) (fun c4 => ?_)
    · refine T.iconst dX9_isDead_88 ?_
      exact T.zret dX9_isDead_89 (narZ (Or.inl rfl)) ⟨by rw [bZ_f (by unfold dyM; omega)], rfl⟩
    · refine T.aload_n dX9_isDead_51 rfl ?_
      refine T.mget (v := rf E 31 0 0) dX9_isDead_52 fo_X9_7 ok29 rfl rfl ?_
      refine T.bipush dX9_isDead_55 ?_
      refine T.iload_n dX9_isDead_57 rfl ?_
      refine T.imul dX9_isDead_58 ?_
      refine T.bipush dX9_isDead_59 ?_
      refine T.iadd dX9_isDead_61 ?_
      refine T.aI (z := S 31 ((8 * d) + 7)) (x := (8 * d) + 7) dX9_isDead_62 ok31 (fun _ => rfl) (by omega) (by omega) (wrM_c rfl) ?_
      have q5 : -1 ≤ S 31 ((8 * d) + 7) ∧ S 31 ((8 * d) + 7) ≤ 9999 := hS 31 ((8 * d) + 7) rfl
      refine T.if_le 88 dX9_isDead_63 (by unfold rg; omega) (fun c6 => ?_) (fun c6 => ?_)
      · refine T.iconst dX9_isDead_88 ?_
        exact T.zret dX9_isDead_89 (narZ (Or.inl rfl)) ⟨by rw [bZ_f (by unfold dyM; omega)], rfl⟩
      · refine T.iload_n dX9_isDead_66 rfl ?_
        refine T.iload_n dX9_isDead_67 rfl ?_
        refine T.isub dX9_isDead_68 ?_
        refine T.aload_n dX9_isDead_69 rfl ?_
        refine T.mget (v := rf E 31 0 0) dX9_isDead_70 fo_X9_7 ok29 rfl rfl ?_
        refine T.bipush dX9_isDead_73 ?_
        refine T.iload_n dX9_isDead_75 rfl ?_
        refine T.imul dX9_isDead_76 ?_
        refine T.bipush dX9_isDead_77 ?_
        refine T.iadd dX9_isDead_79 ?_
        refine T.aI (z := S 31 ((8 * d) + 7)) (x := (8 * d) + 7) dX9_isDead_80 ok31 (fun _ => rfl) (by omega) (by omega) (wrM_c rfl) ?_
        refine T.icmp_le 88 dX9_isDead_81 (by unfold rg; omega) (by unfold rg; omega) (fun c7 => ?_) (fun c7 => ?_)
        · refine T.iconst dX9_isDead_88 ?_
          exact T.zret dX9_isDead_89 (narZ (Or.inl rfl)) ⟨by rw [bZ_f (by unfold dyM; omega)], rfl⟩
        · refine T.iconst dX9_isDead_84 ?_
          refine T.goto 89 dX9_isDead_85 ?_
          exact T.zret dX9_isDead_89 (narZ (Or.inr rfl)) ⟨by rw [bZ_t (by unfold dyM; omega)], rfl⟩
  · refine T.aload_n dX9_isDead_20 rfl ?_
    refine T.mget (v := rf E 31 0 0) dX9_isDead_21 fo_X9_7 ok29 rfl rfl ?_
    refine T.bipush dX9_isDead_24 ?_
    refine T.iload_n dX9_isDead_26 rfl ?_
    refine T.imul dX9_isDead_27 ?_
    refine T.iconst dX9_isDead_28 ?_
    refine T.iadd dX9_isDead_29 ?_
    refine T.aI (z := S 31 ((8 * d) + 2)) (x := (8 * d) + 2) dX9_isDead_30 ok31 (fun _ => rfl) (by omega) (by omega) (wrM_c rfl) ?_
    refine T.goto 40 dX9_isDead_31 ?_
    refine T.istore_n (ls' := [some (rf E 29 0 0), some (.int (iI (d : Int))), some (.int (iI y)), some (.int (iI (S 31 ((8 * d) + 2))))]) dX9_isDead_40 rfl ?_
    refine T.aload_n dX9_isDead_41 rfl ?_
    refine T.iload_n dX9_isDead_42 rfl ?_
    refine T.cV1 (As := [.int (iI (d : Int))]) (st := []) dX9_isDead_43 lk_X9_137 (n_leftOf E m S d (by omega)) ok29 rfl rfl (by decide) rfl rfl (Nat.le_of_ble_eq_true rfl) ?_
    refine T.lconst0 dX9_isDead_46 ?_
    refine T.lcmp_le 88 dX9_isDead_47 dX9_isDead_48 (by unfold rl; omega) (by unfold rl; omega) (fun c8 => ?_) (fun c8 => ?_)
    · refine T.iconst dX9_isDead_88 ?_
      exact T.zret dX9_isDead_89 (narZ (Or.inl rfl)) ⟨by rw [bZ_f (by unfold dyM; omega)], rfl⟩
    · refine T.aload_n dX9_isDead_51 rfl ?_
      refine T.mget (v := rf E 31 0 0) dX9_isDead_52 fo_X9_7 ok29 rfl rfl ?_
      refine T.bipush dX9_isDead_55 ?_
      refine T.iload_n dX9_isDead_57 rfl ?_
      refine T.imul dX9_isDead_58 ?_
      refine T.bipush dX9_isDead_59 ?_
      refine T.iadd dX9_isDead_61 ?_
      refine T.aI (z := S 31 ((8 * d) + 7)) (x := (8 * d) + 7) dX9_isDead_62 ok31 (fun _ => rfl) (by omega) (by omega) (wrM_c rfl) ?_
      have q9 : -1 ≤ S 31 ((8 * d) + 7) ∧ S 31 ((8 * d) + 7) ≤ 9999 := hS 31 ((8 * d) + 7) rfl
      refine T.if_le 88 dX9_isDead_63 (by unfold rg; omega) (fun c10 => ?_) (fun c10 => ?_)
      · refine T.iconst dX9_isDead_88 ?_
        exact T.zret dX9_isDead_89 (narZ (Or.inl rfl)) ⟨by rw [bZ_f (by unfold dyM; omega)], rfl⟩
      · refine T.iload_n dX9_isDead_66 rfl ?_
        refine T.iload_n dX9_isDead_67 rfl ?_
        refine T.isub dX9_isDead_68 ?_
        refine T.aload_n dX9_isDead_69 rfl ?_
        refine T.mget (v := rf E 31 0 0) dX9_isDead_70 fo_X9_7 ok29 rfl rfl ?_
        refine T.bipush dX9_isDead_73 ?_
        refine T.iload_n dX9_isDead_75 rfl ?_
        refine T.imul dX9_isDead_76 ?_
        refine T.bipush dX9_isDead_77 ?_
        refine T.iadd dX9_isDead_79 ?_
        refine T.aI (z := S 31 ((8 * d) + 7)) (x := (8 * d) + 7) dX9_isDead_80 ok31 (fun _ => rfl) (by omega) (by omega) (wrM_c rfl) ?_
        refine T.icmp_le 88 dX9_isDead_81 (by unfold rg; omega) (by unfold rg; omega) (fun c11 => ?_) (fun c11 => ?_)
        · refine T.iconst dX9_isDead_88 ?_
          exact T.zret dX9_isDead_89 (narZ (Or.inl rfl)) ⟨by rw [bZ_f (by unfold dyM; omega)], rfl⟩
        · refine T.iconst dX9_isDead_84 ?_
          refine T.goto 89 dX9_isDead_85 ?_
          exact T.zret dX9_isDead_89 (narZ (Or.inr rfl)) ⟨by rw [bZ_t (by unfold dyM; omega)], rfl⟩
def ntA (S : PS) (d : Nat) (ts tr : Int) : PS := upT (upT (upT (upT S 39 d (S 39 d - ts)) 43 d (S 43 d + ts)) 40 d (S 40 d - tr)) 44 d (S 44 d + tr)
def ntB (S : PS) (d : Nat) (ts tr : Int) : PS := upT (upT (upT (upT S 40 d (S 40 d - tr)) 44 d (S 44 d + tr)) 39 d (S 39 d - ts)) 43 d (S 43 d + ts)
theorem upT_comm {S : PS} {k k' x x' : Nat} {v v' : Int} (h : k ≠ k') : upT (upT S k x v) k' x' v' = upT (upT S k' x' v') k x v := by
  funext q z
  unfold upT
  by_cases h1 : q = k <;> by_cases h2 : q = k' <;> simp_all
theorem ntB_A {S : PS} {d : Nat} {ts tr : Int} : ntB S d ts tr = ntA S d ts tr := by
  unfold ntA ntB
  rw [upT_comm (k := 44) (k' := 39) (by decide), upT_comm (k := 44) (k' := 43) (by decide), upT_comm (k := 40) (k' := 39) (by decide), upT_comm (k := 40) (k' := 43) (by decide)]
def ntW (S : PS) (d : Nat) (y : Int) (F : PS) : PS := upT (upT F 42 d (if S 46 d ≠ 0 ∧ S 42 d < 0 then y else S 42 d)) 41 d y
abbrev nts (S : PS) (l d : Nat) (a : Int) : Int := if hasM S l 115 then min a (S 39 d) else min (a - min a (S 40 d)) (S 39 d)
abbrev ntr (S : PS) (l d : Nat) (a : Int) : Int := if hasM S l 115 then min (a - min a (S 39 d)) (S 40 d) else min a (S 40 d)
def ntR (S : PS) (l d : Nat) (a : Int) : Int := nts S l d a + ntr S l d a
def ntS (S : PS) (l d : Nat) (a y : Int) : PS := if 0 < ntR S l d a then ntW S d y (ntA S d (nts S l d a) (ntr S l d a)) else ntA S d (nts S l d a) (ntr S l d a)
theorem nts_bd {S : PS} {l d : Nat} {a : Int} (hS : InvS kM S) (ha : 0 ≤ a) : (0 ≤ nts S l d a ∧ nts S l d a ≤ S 39 d) ∧ (0 ≤ ntr S l d a ∧ ntr S l d a ≤ S 40 d) ∧ ntR S l d a = min a (S 39 d + S 40 d) := by
  have q1 : 0 ≤ S 39 d ∧ S 39 d ≤ 99990000 := hS 39 d rfl
  have q2 : 0 ≤ S 40 d ∧ S 40 d ≤ 4000000000 := hS 40 d rfl
  unfold ntR nts ntr
  split <;> omega
theorem ntA_inv {S : PS} {d : Nat} {ts tr : Int} (hS : InvS kM S) (h1 : 0 ≤ ts ∧ ts ≤ S 39 d) (h2 : 0 ≤ tr ∧ tr ≤ S 40 d) : InvS kM (ntA S d ts tr) := by
  have q1 : 0 ≤ S 39 d ∧ S 39 d ≤ 99990000 := hS 39 d rfl
  have q2 : 0 ≤ S 40 d ∧ S 40 d ≤ 4000000000 := hS 40 d rfl
  unfold ntA
  exact (((hS.up (by show 0 ≤ _ ∧ _ ≤ (99990000 : Int); omega)).up (by show True; trivial)).up (by show 0 ≤ _ ∧ _ ≤ (4000000000 : Int); omega)).up (by show True; trivial)
theorem ntS_inv {S : PS} {l d : Nat} {a y : Int} (hS : InvS kM S) (ha : 0 ≤ a) (hy : 0 ≤ y ∧ y ≤ 299) : InvS kM (ntS S l d a y) := by
  obtain ⟨h1, h2, -⟩ := nts_bd (l := l) (d := d) hS ha
  have q3 : -4 ≤ S 42 d ∧ S 42 d ≤ 299 := hS 42 d rfl
  unfold ntS
  split
  · unfold ntW
    refine ((ntA_inv hS h1 h2).up ?_).up (by show -1 ≤ _ ∧ _ ≤ (299 : Int); omega)
    show -4 ≤ _ ∧ _ ≤ (299 : Int)
    split <;> omega
  · exact ntA_inv hS h1 h2
theorem ntS_k {S : PS} {l d : Nat} {a y : Int} {k : Nat} (h : k < 39 ∨ 44 < k) : ntS S l d a y k = S k := by
  funext x
  unfold ntS ntW ntA
  split
  · rw [upT_k (by omega), upT_k (by omega), upT_k (by omega), upT_k (by omega), upT_k (by omega), upT_k (by omega)]
  · rw [upT_k (by omega), upT_k (by omega), upT_k (by omega), upT_k (by omega)]
theorem ntS_wf {S : PS} {l d : Nat} {a y : Int} : WF S (ntS S l d a y) := ⟨fun k h1 _ => ntS_k (by omega), fun x _ => by rw [ntS_k (by decide)]⟩
theorem ntS_x {S : PS} {l d : Nat} {a y : Int} {k x : Nat} (h : x ≠ d) : ntS S l d a y k x = S k x := by
  unfold ntS ntW ntA
  split
  · rw [upT_x h, upT_x h, upT_x h, upT_x h, upT_x h, upT_x h]
  · rw [upT_x h, upT_x h, upT_x h, upT_x h]
theorem ntS_sr {S : PS} {l d : Nat} {a y : Int} : ntS S l d a y 39 d = S 39 d - nts S l d a ∧ ntS S l d a y 40 d = S 40 d - ntr S l d a := by
  unfold ntS ntW ntA
  split <;> simp [upT]
theorem ntS_cm {S : PS} {l d t : Nat} {a y : Int} (hS : InvS kM S) (ha : 0 ≤ a) (h : CM S t) : CM (ntS S l d a y) t := by
  intro x hx
  have hh := h x hx
  by_cases e : x = d
  · subst e
    obtain ⟨h1, h2, -⟩ := nts_bd (l := l) (d := x) hS ha
    rw [ntS_sr.1, ntS_sr.2]
    omega
  · rw [ntS_x e, ntS_x e]; exact hh
set_option maxHeartbeats 4000000 in
set_option maxRecDepth 100000 in
theorem n_putTo_t (E : Ev) (m : Mem) (S : PS) (l d : Nat) (a y : Int) (hS : InvS kM S) (hl : l < 2) (hd : d < 8) (ha : 0 ≤ a ∧ a ≤ 9000000000000000000) (hs : hasM S l 115) : CT E 2 mX9_putTo [rf E 29 0 0, .int (iI (l : Int)), .int (iI (d : Int)), .long (lI a), .int (iI y)] (hp E (wrM m S)) (some (.long (lI (ntR S l d a)))) (hp E (wrM m (ntS S l d a y))) := by
  refine CT.go okX9_putTo (Nat.le_of_ble_eq_true rfl) ?_
  show T E 2 mX9_putTo 0 [some (rf E 29 0 0), some (.int (iI (l : Int))), some (.int (iI (d : Int))), some (.long (lI a)), none, some (.int (iI y)), none, none, none, none, none, none, none, none, none] [] (hp E (wrM m S)) _
  have b39 : 0 ≤ S 39 d ∧ S 39 d ≤ 99990000 := hS 39 d rfl
  have b40 : 0 ≤ S 40 d ∧ S 40 d ≤ 4000000000 := hS 40 d rfl
  refine T.aload_n dX9_putTo_0 rfl ?_
  refine T.iload_n dX9_putTo_1 rfl ?_
  refine T.bipush dX9_putTo_2 ?_
  refine T.cV1 (As := [.int (iI (l : Int)), .int (iI 115)]) (st := []) dX9_putTo_4 lk_X9_141 (by have h0 := n_has E m S l 115 hS hl (by decide); rw [bZ_t hs] at h0; exact h0) ok29 rfl rfl (by decide) rfl rfl (Nat.le_of_ble_eq_true rfl) ?_
  refine T.istore (ls' := [some (rf E 29 0 0), some (.int (iI (l : Int))), some (.int (iI (d : Int))), some (.long (lI a)), none, some (.int (iI y)), some (.int (iI 1)), none, none, none, none, none, none, none, none]) dX9_putTo_7 rfl ?_
  refine T.lload_n dX9_putTo_9 rfl ?_
  refine T.lstore (ls' := [some (rf E 29 0 0), some (.int (iI (l : Int))), some (.int (iI (d : Int))), some (.long (lI a)), none, some (.int (iI y)), some (.int (iI 1)), some (.long (lI a)), none, none, none, none, none, none, none]) dX9_putTo_10 rfl ?_
  refine T.iconst dX9_putTo_12 ?_
  refine T.istore (ls' := [some (rf E 29 0 0), some (.int (iI (l : Int))), some (.int (iI (d : Int))), some (.long (lI a)), none, some (.int (iI y)), some (.int (iI 1)), some (.long (lI a)), none, some (.int (iI 0)), none, none, none, none, none]) dX9_putTo_13 rfl ?_
  refine T.iload dX9_putTo_15 rfl ?_
  refine T.iconst dX9_putTo_17 ?_
  refine T.icmp_ge 147 dX9_putTo_18 (by unfold rg; omega) (by unfold rg; omega) (fun c1 => ?_) (fun c1 => ?_)
  · exact absurd c1 (by omega)
  · refine T.iload dX9_putTo_21 rfl ?_
    refine T.iload dX9_putTo_23 rfl ?_
    refine T.if_ne 32 dX9_putTo_25 (by unfold rg; omega) (fun c2 => ?_) (fun c2 => ?_)
    · exact absurd c2 (by omega)
    · refine T.iconst dX9_putTo_28 ?_
      refine T.goto 33 dX9_putTo_29 ?_
      refine T.icmp_ne 40 dX9_putTo_33 (by unfold rg; omega) (by unfold rg; omega) (fun c3 => ?_) (fun c3 => ?_)
      · exact absurd c3 (by omega)
      · refine T.iconst dX9_putTo_36 ?_
        refine T.goto 41 dX9_putTo_37 ?_
        refine T.istore (ls' := [some (rf E 29 0 0), some (.int (iI (l : Int))), some (.int (iI (d : Int))), some (.long (lI a)), none, some (.int (iI y)), some (.int (iI 1)), some (.long (lI a)), none, some (.int (iI 0)), some (.int (iI 1)), none, none, none, none]) dX9_putTo_41 rfl ?_
        refine T.iload dX9_putTo_43 rfl ?_
        refine T.if_eq 57 dX9_putTo_45 (by unfold rg; omega) (fun c4 => ?_) (fun c4 => ?_)
        · exact absurd c4 (by omega)
        · refine T.aload_n dX9_putTo_48 rfl ?_
          refine T.mget (v := rf E 39 0 0) dX9_putTo_49 fo_X9_28 ok29 rfl rfl ?_
          refine T.iload_n dX9_putTo_52 rfl ?_
          refine T.aL (z := S 39 d) (x := d) dX9_putTo_53 ok39 (fun _ => rfl) rfl (by omega) (wrM_c rfl) ?_
          have q5 : 0 ≤ S 39 d ∧ S 39 d ≤ 99990000 := hS 39 d rfl
          refine T.goto 63 dX9_putTo_54 ?_
          refine T.lstore (ls' := [some (rf E 29 0 0), some (.int (iI (l : Int))), some (.int (iI (d : Int))), some (.long (lI a)), none, some (.int (iI y)), some (.int (iI 1)), some (.long (lI a)), none, some (.int (iI 0)), some (.int (iI 1)), some (.long (lI (S 39 d))), none, none, none]) dX9_putTo_63 rfl ?_
          refine T.lload dX9_putTo_65 rfl ?_
          refine T.lload dX9_putTo_67 rfl ?_
          refine T.lcmp_ge 78 dX9_putTo_69 dX9_putTo_70 (by unfold rl; omega) (by unfold rl; omega) (fun c6 => ?_) (fun c6 => ?_)
          · refine T.lload dX9_putTo_78 rfl ?_
            refine T.topl (z := min a (S 39 d)) (congrArg lI (by omega)) ?_
            refine T.lstore (ls' := [some (rf E 29 0 0), some (.int (iI (l : Int))), some (.int (iI (d : Int))), some (.long (lI a)), none, some (.int (iI y)), some (.int (iI 1)), some (.long (lI a)), none, some (.int (iI 0)), some (.int (iI 1)), some (.long (lI (S 39 d))), none, some (.long (lI (min a (S 39 d)))), none]) dX9_putTo_80 rfl ?_
            refine T.iload dX9_putTo_82 rfl ?_
            refine T.if_eq 112 dX9_putTo_84 (by unfold rg; omega) (fun c7 => ?_) (fun c7 => ?_)
            · exact absurd c7 (by omega)
            · refine T.aload_n dX9_putTo_87 rfl ?_
              refine T.mget (v := rf E 39 0 0) dX9_putTo_88 fo_X9_28 ok29 rfl rfl ?_
              refine T.iload_n dX9_putTo_91 rfl ?_
              refine T.dup2 dX9_putTo_92 ?_
              refine T.aL (z := S 39 d) (x := d) dX9_putTo_93 ok39 (fun _ => rfl) rfl (by omega) (wrM_c rfl) ?_
              refine T.lload dX9_putTo_94 rfl ?_
              refine T.lsub dX9_putTo_96 ?_
              refine T.nlst (x := d) dX9_putTo_97 rfl ok39 (fun _ => rfl) rfl (by omega) ?_
              refine T.aload_n dX9_putTo_98 rfl ?_
              refine T.mget (v := rf E 43 0 0) dX9_putTo_99 fo_X9_41 ok29 rfl rfl ?_
              refine T.iload_n dX9_putTo_102 rfl ?_
              refine T.dup2 dX9_putTo_103 ?_
              refine T.aL (z := S 43 d) (x := d) dX9_putTo_104 ok43 (fun _ => rfl) rfl (by omega) ((wrM_c rfl).trans (by simp [upT])) ?_
              refine T.lload dX9_putTo_105 rfl ?_
              refine T.ladd dX9_putTo_107 ?_
              refine T.nlst (x := d) dX9_putTo_108 rfl ok43 (fun _ => rfl) rfl (by omega) ?_
              refine T.goto 134 dX9_putTo_109 ?_
              refine T.lload dX9_putTo_134 rfl ?_
              refine T.lload dX9_putTo_136 rfl ?_
              refine T.lsub dX9_putTo_138 ?_
              refine T.lstore (ls' := [some (rf E 29 0 0), some (.int (iI (l : Int))), some (.int (iI (d : Int))), some (.long (lI a)), none, some (.int (iI y)), some (.int (iI 1)), some (.long (lI (a - (min a (S 39 d))))), none, some (.int (iI 0)), some (.int (iI 1)), some (.long (lI (S 39 d))), none, some (.long (lI (min a (S 39 d)))), none]) dX9_putTo_139 rfl ?_
              refine T.iinc (ls' := [some (rf E 29 0 0), some (.int (iI (l : Int))), some (.int (iI (d : Int))), some (.long (lI a)), none, some (.int (iI y)), some (.int (iI 1)), some (.long (lI (a - (min a (S 39 d))))), none, some (.int (iI (0 + 1))), some (.int (iI 1)), some (.long (lI (S 39 d))), none, some (.long (lI (min a (S 39 d)))), none]) dX9_putTo_141 rfl rfl ?_
              refine T.goto 15 dX9_putTo_144 ?_
              refine T.iload dX9_putTo_15 rfl ?_
              refine T.iconst dX9_putTo_17 ?_
              refine T.icmp_ge 147 dX9_putTo_18 (by unfold rg; omega) (by unfold rg; omega) (fun c8 => ?_) (fun c8 => ?_)
              · exact absurd c8 (by omega)
              · refine T.iload dX9_putTo_21 rfl ?_
                refine T.iload dX9_putTo_23 rfl ?_
                refine T.if_ne 32 dX9_putTo_25 (by unfold rg; omega) (fun c9 => ?_) (fun c9 => ?_)
                · refine T.iconst dX9_putTo_32 ?_
                  refine T.icmp_ne 40 dX9_putTo_33 (by unfold rg; omega) (by unfold rg; omega) (fun c10 => ?_) (fun c10 => ?_)
                  · refine T.iconst dX9_putTo_40 ?_
                    refine T.istore (ls' := [some (rf E 29 0 0), some (.int (iI (l : Int))), some (.int (iI (d : Int))), some (.long (lI a)), none, some (.int (iI y)), some (.int (iI 1)), some (.long (lI (a - (min a (S 39 d))))), none, some (.int (iI (0 + 1))), some (.int (iI 0)), some (.long (lI (S 39 d))), none, some (.long (lI (min a (S 39 d)))), none]) dX9_putTo_41 rfl ?_
                    refine T.iload dX9_putTo_43 rfl ?_
                    refine T.if_eq 57 dX9_putTo_45 (by unfold rg; omega) (fun c11 => ?_) (fun c11 => ?_)
                    · refine T.aload_n dX9_putTo_57 rfl ?_
                      refine T.mget (v := rf E 40 0 0) dX9_putTo_58 fo_X9_32 ok29 rfl rfl ?_
                      refine T.iload_n dX9_putTo_61 rfl ?_
                      refine T.aL (z := S 40 d) (x := d) dX9_putTo_62 ok40 (fun _ => rfl) rfl (by omega) ((wrM_c rfl).trans (by simp [upT])) ?_
                      have q12 : 0 ≤ S 40 d ∧ S 40 d ≤ 4000000000 := hS 40 d rfl
                      refine T.lstore (ls' := [some (rf E 29 0 0), some (.int (iI (l : Int))), some (.int (iI (d : Int))), some (.long (lI a)), none, some (.int (iI y)), some (.int (iI 1)), some (.long (lI (a - (min a (S 39 d))))), none, some (.int (iI (0 + 1))), some (.int (iI 0)), some (.long (lI (S 40 d))), none, some (.long (lI (min a (S 39 d)))), none]) dX9_putTo_63 rfl ?_
                      refine T.lload dX9_putTo_65 rfl ?_
                      refine T.lload dX9_putTo_67 rfl ?_
                      refine T.lcmp_ge 78 dX9_putTo_69 dX9_putTo_70 (by unfold rl; omega) (by unfold rl; omega) (fun c13 => ?_) (fun c13 => ?_)
                      · refine T.lload dX9_putTo_78 rfl ?_
                        refine T.topl (z := min (a - (min a (S 39 d))) (S 40 d)) (congrArg lI (by omega)) ?_
                        refine T.lstore (ls' := [some (rf E 29 0 0), some (.int (iI (l : Int))), some (.int (iI (d : Int))), some (.long (lI a)), none, some (.int (iI y)), some (.int (iI 1)), some (.long (lI (a - (min a (S 39 d))))), none, some (.int (iI (0 + 1))), some (.int (iI 0)), some (.long (lI (S 40 d))), none, some (.long (lI (min (a - (min a (S 39 d))) (S 40 d)))), none]) dX9_putTo_80 rfl ?_
                        refine T.iload dX9_putTo_82 rfl ?_
                        refine T.if_eq 112 dX9_putTo_84 (by unfold rg; omega) (fun c14 => ?_) (fun c14 => ?_)
                        · refine T.aload_n dX9_putTo_112 rfl ?_
                          refine T.mget (v := rf E 40 0 0) dX9_putTo_113 fo_X9_32 ok29 rfl rfl ?_
                          refine T.iload_n dX9_putTo_116 rfl ?_
                          refine T.dup2 dX9_putTo_117 ?_
                          refine T.aL (z := S 40 d) (x := d) dX9_putTo_118 ok40 (fun _ => rfl) rfl (by omega) ((wrM_c rfl).trans (by simp [upT])) ?_
                          refine T.lload dX9_putTo_119 rfl ?_
                          refine T.lsub dX9_putTo_121 ?_
                          refine T.nlst (x := d) dX9_putTo_122 rfl ok40 (fun _ => rfl) rfl (by omega) ?_
                          refine T.aload_n dX9_putTo_123 rfl ?_
                          refine T.mget (v := rf E 44 0 0) dX9_putTo_124 fo_X9_44 ok29 rfl rfl ?_
                          refine T.iload_n dX9_putTo_127 rfl ?_
                          refine T.dup2 dX9_putTo_128 ?_
                          refine T.aL (z := S 44 d) (x := d) dX9_putTo_129 ok44 (fun _ => rfl) rfl (by omega) ((wrM_c rfl).trans (by simp [upT])) ?_
                          refine T.lload dX9_putTo_130 rfl ?_
                          refine T.ladd dX9_putTo_132 ?_
                          refine T.nlst (x := d) dX9_putTo_133 rfl ok44 (fun _ => rfl) rfl (by omega) ?_
                          refine T.lload dX9_putTo_134 rfl ?_
                          refine T.lload dX9_putTo_136 rfl ?_
                          refine T.lsub dX9_putTo_138 ?_
                          refine T.lstore (ls' := [some (rf E 29 0 0), some (.int (iI (l : Int))), some (.int (iI (d : Int))), some (.long (lI a)), none, some (.int (iI y)), some (.int (iI 1)), some (.long (lI ((a - (min a (S 39 d))) - (min (a - (min a (S 39 d))) (S 40 d))))), none, some (.int (iI (0 + 1))), some (.int (iI 0)), some (.long (lI (S 40 d))), none, some (.long (lI (min (a - (min a (S 39 d))) (S 40 d)))), none]) dX9_putTo_139 rfl ?_
                          refine T.iinc (ls' := [some (rf E 29 0 0), some (.int (iI (l : Int))), some (.int (iI (d : Int))), some (.long (lI a)), none, some (.int (iI y)), some (.int (iI 1)), some (.long (lI ((a - (min a (S 39 d))) - (min (a - (min a (S 39 d))) (S 40 d))))), none, some (.int (iI (0 + 1 + 1))), some (.int (iI 0)), some (.long (lI (S 40 d))), none, some (.long (lI (min (a - (min a (S 39 d))) (S 40 d)))), none]) dX9_putTo_141 rfl rfl ?_
                          refine T.goto 15 dX9_putTo_144 ?_
                          refine T.iload dX9_putTo_15 rfl ?_
                          refine T.iconst dX9_putTo_17 ?_
                          refine T.icmp_ge 147 dX9_putTo_18 (by unfold rg; omega) (by unfold rg; omega) (fun c15 => ?_) (fun c15 => ?_)
                          · refine T.lload_n dX9_putTo_147 rfl ?_
                            refine T.lload dX9_putTo_148 rfl ?_
                            refine T.lsub dX9_putTo_150 ?_
                            refine T.lstore (ls' := [some (rf E 29 0 0), some (.int (iI (l : Int))), some (.int (iI (d : Int))), some (.long (lI a)), none, some (.int (iI y)), some (.int (iI 1)), some (.long (lI ((a - (min a (S 39 d))) - (min (a - (min a (S 39 d))) (S 40 d))))), none, some (.long (lI (a - ((a - (min a (S 39 d))) - (min (a - (min a (S 39 d))) (S 40 d)))))), none, some (.long (lI (S 40 d))), none, some (.long (lI (min (a - (min a (S 39 d))) (S 40 d)))), none]) dX9_putTo_151 rfl ?_
                            have hp1 : nts S l d a = min a (S 39 d) := if_pos hs
                            have hp2 : ntr S l d a = min (a - min a (S 39 d)) (S 40 d) := if_pos hs
                            have hp3 : ntR S l d a = a - ((a - (min a (S 39 d))) - (min (a - (min a (S 39 d))) (S 40 d))) := by unfold ntR; rw [hp1, hp2]; omega
                            refine T.lload dX9_putTo_153 rfl ?_
                            refine T.lconst0 dX9_putTo_155 ?_
                            refine T.lcmp_le 203 dX9_putTo_156 dX9_putTo_157 (by unfold rl; omega) (by unfold rl; omega) (fun c16 => ?_) (fun c16 => ?_)
                            · refine T.lload dX9_putTo_203 rfl ?_
                              exact T.lret dX9_putTo_205 ⟨by rw [hp3], congrArg (fun z => hp E (wrM m z)) (Eq.symm (show ntS S l d a y = (upT (upT (upT (upT S 39 d ((S 39 d) - (min a (S 39 d)))) 43 d ((S 43 d) + (min a (S 39 d)))) 40 d ((S 40 d) - (min (a - (min a (S 39 d))) (S 40 d)))) 44 d ((S 44 d) + (min (a - (min a (S 39 d))) (S 40 d)))) from by unfold ntS; rw [if_neg (by omega), hp1, hp2]; rfl))⟩
                            · refine T.aload_n dX9_putTo_160 rfl ?_
                              refine T.mget (v := rf E 42 0 0) dX9_putTo_161 fo_X9_38 ok29 rfl rfl ?_
                              refine T.iload_n dX9_putTo_164 rfl ?_
                              refine T.aload_n dX9_putTo_165 rfl ?_
                              refine T.mget (v := rf E 46 0 0) dX9_putTo_166 fo_X9_47 ok29 rfl rfl ?_
                              refine T.iload_n dX9_putTo_169 rfl ?_
                              refine T.aZ (z := S 46 d) (x := d) dX9_putTo_170 ok46 (fun _ => rfl) rfl (by omega) ((wrM_c rfl).trans (by simp [upT])) ?_
                              have q17 : 0 ≤ S 46 d ∧ S 46 d ≤ 1 := hS 46 d rfl
                              refine T.if_eq 188 dX9_putTo_171 (by unfold rg; omega) (fun c18 => ?_) (fun c18 => ?_)
                              · refine T.aload_n dX9_putTo_188 rfl ?_
                                refine T.mget (v := rf E 42 0 0) dX9_putTo_189 fo_X9_38 ok29 rfl rfl ?_
                                refine T.iload_n dX9_putTo_192 rfl ?_
                                refine T.aI (z := S 42 d) (x := d) dX9_putTo_193 ok42 (fun _ => rfl) rfl (by omega) ((wrM_c rfl).trans (by simp [upT])) ?_
                                have q19 : -4 ≤ S 42 d ∧ S 42 d ≤ 299 := hS 42 d rfl
                                refine T.nist (x := d) dX9_putTo_194 rfl ok42 (fun _ => rfl) rfl (by omega) ?_
                                refine T.aload_n dX9_putTo_195 rfl ?_
                                refine T.mget (v := rf E 41 0 0) dX9_putTo_196 fo_X9_35 ok29 rfl rfl ?_
                                refine T.iload_n dX9_putTo_199 rfl ?_
                                refine T.iload dX9_putTo_200 rfl ?_
                                refine T.nist (x := d) dX9_putTo_202 rfl ok41 (fun _ => rfl) rfl (by omega) ?_
                                refine T.lload dX9_putTo_203 rfl ?_
                                have hW : (if S 46 d ≠ 0 ∧ S 42 d < 0 then y else S 42 d) = S 42 d := by split <;> omega
                                exact T.lret dX9_putTo_205 ⟨by rw [hp3], congrArg (fun z => hp E (wrM m z)) (Eq.symm (show ntS S l d a y = (upT (upT (upT (upT (upT (upT S 39 d ((S 39 d) - (min a (S 39 d)))) 43 d ((S 43 d) + (min a (S 39 d)))) 40 d ((S 40 d) - (min (a - (min a (S 39 d))) (S 40 d)))) 44 d ((S 44 d) + (min (a - (min a (S 39 d))) (S 40 d)))) 42 d (S 42 d)) 41 d y) from by unfold ntS; rw [if_pos (by omega), hp1, hp2]; unfold ntW; rw [hW]; rfl))⟩
                              · refine T.aload_n dX9_putTo_174 rfl ?_
                                refine T.mget (v := rf E 42 0 0) dX9_putTo_175 fo_X9_38 ok29 rfl rfl ?_
                                refine T.iload_n dX9_putTo_178 rfl ?_
                                refine T.aI (z := S 42 d) (x := d) dX9_putTo_179 ok42 (fun _ => rfl) rfl (by omega) ((wrM_c rfl).trans (by simp [upT])) ?_
                                have q20 : -4 ≤ S 42 d ∧ S 42 d ≤ 299 := hS 42 d rfl
                                refine T.if_ge 188 dX9_putTo_180 (by unfold rg; omega) (fun c21 => ?_) (fun c21 => ?_)
                                · refine T.aload_n dX9_putTo_188 rfl ?_
                                  refine T.mget (v := rf E 42 0 0) dX9_putTo_189 fo_X9_38 ok29 rfl rfl ?_
                                  refine T.iload_n dX9_putTo_192 rfl ?_
                                  refine T.aI (z := S 42 d) (x := d) dX9_putTo_193 ok42 (fun _ => rfl) rfl (by omega) ((wrM_c rfl).trans (by simp [upT])) ?_
                                  refine T.nist (x := d) dX9_putTo_194 rfl ok42 (fun _ => rfl) rfl (by omega) ?_
                                  refine T.aload_n dX9_putTo_195 rfl ?_
                                  refine T.mget (v := rf E 41 0 0) dX9_putTo_196 fo_X9_35 ok29 rfl rfl ?_
                                  refine T.iload_n dX9_putTo_199 rfl ?_
                                  refine T.iload dX9_putTo_200 rfl ?_
                                  refine T.nist (x := d) dX9_putTo_202 rfl ok41 (fun _ => rfl) rfl (by omega) ?_
                                  refine T.lload dX9_putTo_203 rfl ?_
                                  have hW : (if S 46 d ≠ 0 ∧ S 42 d < 0 then y else S 42 d) = S 42 d := by split <;> omega
                                  exact T.lret dX9_putTo_205 ⟨by rw [hp3], congrArg (fun z => hp E (wrM m z)) (Eq.symm (show ntS S l d a y = (upT (upT (upT (upT (upT (upT S 39 d ((S 39 d) - (min a (S 39 d)))) 43 d ((S 43 d) + (min a (S 39 d)))) 40 d ((S 40 d) - (min (a - (min a (S 39 d))) (S 40 d)))) 44 d ((S 44 d) + (min (a - (min a (S 39 d))) (S 40 d)))) 42 d (S 42 d)) 41 d y) from by unfold ntS; rw [if_pos (by omega), hp1, hp2]; unfold ntW; rw [hW]; rfl))⟩
                                · refine T.iload dX9_putTo_183 rfl ?_
                                  refine T.goto 194 dX9_putTo_185 ?_
                                  refine T.nist (x := d) dX9_putTo_194 rfl ok42 (fun _ => rfl) rfl (by omega) ?_
                                  refine T.aload_n dX9_putTo_195 rfl ?_
                                  refine T.mget (v := rf E 41 0 0) dX9_putTo_196 fo_X9_35 ok29 rfl rfl ?_
                                  refine T.iload_n dX9_putTo_199 rfl ?_
                                  refine T.iload dX9_putTo_200 rfl ?_
                                  refine T.nist (x := d) dX9_putTo_202 rfl ok41 (fun _ => rfl) rfl (by omega) ?_
                                  refine T.lload dX9_putTo_203 rfl ?_
                                  have hW : (if S 46 d ≠ 0 ∧ S 42 d < 0 then y else S 42 d) = y := by split <;> omega
                                  exact T.lret dX9_putTo_205 ⟨by rw [hp3], congrArg (fun z => hp E (wrM m z)) (Eq.symm (show ntS S l d a y = (upT (upT (upT (upT (upT (upT S 39 d ((S 39 d) - (min a (S 39 d)))) 43 d ((S 43 d) + (min a (S 39 d)))) 40 d ((S 40 d) - (min (a - (min a (S 39 d))) (S 40 d)))) 44 d ((S 44 d) + (min (a - (min a (S 39 d))) (S 40 d)))) 42 d y) 41 d y) from by unfold ntS; rw [if_pos (by omega), hp1, hp2]; unfold ntW; rw [hW]; rfl))⟩
                          · exact absurd c15 (by omega)
                        · exact absurd c14 (by omega)
                      · refine T.lload dX9_putTo_73 rfl ?_
                        refine T.goto 80 dX9_putTo_75 ?_
                        refine T.topl (z := min (a - (min a (S 39 d))) (S 40 d)) (congrArg lI (by omega)) ?_
                        refine T.lstore (ls' := [some (rf E 29 0 0), some (.int (iI (l : Int))), some (.int (iI (d : Int))), some (.long (lI a)), none, some (.int (iI y)), some (.int (iI 1)), some (.long (lI (a - (min a (S 39 d))))), none, some (.int (iI (0 + 1))), some (.int (iI 0)), some (.long (lI (S 40 d))), none, some (.long (lI (min (a - (min a (S 39 d))) (S 40 d)))), none]) dX9_putTo_80 rfl ?_
                        refine T.iload dX9_putTo_82 rfl ?_
                        refine T.if_eq 112 dX9_putTo_84 (by unfold rg; omega) (fun c22 => ?_) (fun c22 => ?_)
                        · refine T.aload_n dX9_putTo_112 rfl ?_
                          refine T.mget (v := rf E 40 0 0) dX9_putTo_113 fo_X9_32 ok29 rfl rfl ?_
                          refine T.iload_n dX9_putTo_116 rfl ?_
                          refine T.dup2 dX9_putTo_117 ?_
                          refine T.aL (z := S 40 d) (x := d) dX9_putTo_118 ok40 (fun _ => rfl) rfl (by omega) ((wrM_c rfl).trans (by simp [upT])) ?_
                          refine T.lload dX9_putTo_119 rfl ?_
                          refine T.lsub dX9_putTo_121 ?_
                          refine T.nlst (x := d) dX9_putTo_122 rfl ok40 (fun _ => rfl) rfl (by omega) ?_
                          refine T.aload_n dX9_putTo_123 rfl ?_
                          refine T.mget (v := rf E 44 0 0) dX9_putTo_124 fo_X9_44 ok29 rfl rfl ?_
                          refine T.iload_n dX9_putTo_127 rfl ?_
                          refine T.dup2 dX9_putTo_128 ?_
                          refine T.aL (z := S 44 d) (x := d) dX9_putTo_129 ok44 (fun _ => rfl) rfl (by omega) ((wrM_c rfl).trans (by simp [upT])) ?_
                          refine T.lload dX9_putTo_130 rfl ?_
                          refine T.ladd dX9_putTo_132 ?_
                          refine T.nlst (x := d) dX9_putTo_133 rfl ok44 (fun _ => rfl) rfl (by omega) ?_
                          refine T.lload dX9_putTo_134 rfl ?_
                          refine T.lload dX9_putTo_136 rfl ?_
                          refine T.lsub dX9_putTo_138 ?_
                          refine T.lstore (ls' := [some (rf E 29 0 0), some (.int (iI (l : Int))), some (.int (iI (d : Int))), some (.long (lI a)), none, some (.int (iI y)), some (.int (iI 1)), some (.long (lI ((a - (min a (S 39 d))) - (min (a - (min a (S 39 d))) (S 40 d))))), none, some (.int (iI (0 + 1))), some (.int (iI 0)), some (.long (lI (S 40 d))), none, some (.long (lI (min (a - (min a (S 39 d))) (S 40 d)))), none]) dX9_putTo_139 rfl ?_
                          refine T.iinc (ls' := [some (rf E 29 0 0), some (.int (iI (l : Int))), some (.int (iI (d : Int))), some (.long (lI a)), none, some (.int (iI y)), some (.int (iI 1)), some (.long (lI ((a - (min a (S 39 d))) - (min (a - (min a (S 39 d))) (S 40 d))))), none, some (.int (iI (0 + 1 + 1))), some (.int (iI 0)), some (.long (lI (S 40 d))), none, some (.long (lI (min (a - (min a (S 39 d))) (S 40 d)))), none]) dX9_putTo_141 rfl rfl ?_
                          refine T.goto 15 dX9_putTo_144 ?_
                          refine T.iload dX9_putTo_15 rfl ?_
                          refine T.iconst dX9_putTo_17 ?_
                          refine T.icmp_ge 147 dX9_putTo_18 (by unfold rg; omega) (by unfold rg; omega) (fun c23 => ?_) (fun c23 => ?_)
                          · refine T.lload_n dX9_putTo_147 rfl ?_
                            refine T.lload dX9_putTo_148 rfl ?_
                            refine T.lsub dX9_putTo_150 ?_
                            refine T.lstore (ls' := [some (rf E 29 0 0), some (.int (iI (l : Int))), some (.int (iI (d : Int))), some (.long (lI a)), none, some (.int (iI y)), some (.int (iI 1)), some (.long (lI ((a - (min a (S 39 d))) - (min (a - (min a (S 39 d))) (S 40 d))))), none, some (.long (lI (a - ((a - (min a (S 39 d))) - (min (a - (min a (S 39 d))) (S 40 d)))))), none, some (.long (lI (S 40 d))), none, some (.long (lI (min (a - (min a (S 39 d))) (S 40 d)))), none]) dX9_putTo_151 rfl ?_
                            have hp1 : nts S l d a = min a (S 39 d) := if_pos hs
                            have hp2 : ntr S l d a = min (a - min a (S 39 d)) (S 40 d) := if_pos hs
                            have hp3 : ntR S l d a = a - ((a - (min a (S 39 d))) - (min (a - (min a (S 39 d))) (S 40 d))) := by unfold ntR; rw [hp1, hp2]; omega
                            refine T.lload dX9_putTo_153 rfl ?_
                            refine T.lconst0 dX9_putTo_155 ?_
                            refine T.lcmp_le 203 dX9_putTo_156 dX9_putTo_157 (by unfold rl; omega) (by unfold rl; omega) (fun c24 => ?_) (fun c24 => ?_)
                            · refine T.lload dX9_putTo_203 rfl ?_
                              exact T.lret dX9_putTo_205 ⟨by rw [hp3], congrArg (fun z => hp E (wrM m z)) (Eq.symm (show ntS S l d a y = (upT (upT (upT (upT S 39 d ((S 39 d) - (min a (S 39 d)))) 43 d ((S 43 d) + (min a (S 39 d)))) 40 d ((S 40 d) - (min (a - (min a (S 39 d))) (S 40 d)))) 44 d ((S 44 d) + (min (a - (min a (S 39 d))) (S 40 d)))) from by unfold ntS; rw [if_neg (by omega), hp1, hp2]; rfl))⟩
                            · refine T.aload_n dX9_putTo_160 rfl ?_
                              refine T.mget (v := rf E 42 0 0) dX9_putTo_161 fo_X9_38 ok29 rfl rfl ?_
                              refine T.iload_n dX9_putTo_164 rfl ?_
                              refine T.aload_n dX9_putTo_165 rfl ?_
                              refine T.mget (v := rf E 46 0 0) dX9_putTo_166 fo_X9_47 ok29 rfl rfl ?_
                              refine T.iload_n dX9_putTo_169 rfl ?_
                              refine T.aZ (z := S 46 d) (x := d) dX9_putTo_170 ok46 (fun _ => rfl) rfl (by omega) ((wrM_c rfl).trans (by simp [upT])) ?_
                              have q25 : 0 ≤ S 46 d ∧ S 46 d ≤ 1 := hS 46 d rfl
                              refine T.if_eq 188 dX9_putTo_171 (by unfold rg; omega) (fun c26 => ?_) (fun c26 => ?_)
                              · refine T.aload_n dX9_putTo_188 rfl ?_
                                refine T.mget (v := rf E 42 0 0) dX9_putTo_189 fo_X9_38 ok29 rfl rfl ?_
                                refine T.iload_n dX9_putTo_192 rfl ?_
                                refine T.aI (z := S 42 d) (x := d) dX9_putTo_193 ok42 (fun _ => rfl) rfl (by omega) ((wrM_c rfl).trans (by simp [upT])) ?_
                                have q27 : -4 ≤ S 42 d ∧ S 42 d ≤ 299 := hS 42 d rfl
                                refine T.nist (x := d) dX9_putTo_194 rfl ok42 (fun _ => rfl) rfl (by omega) ?_
                                refine T.aload_n dX9_putTo_195 rfl ?_
                                refine T.mget (v := rf E 41 0 0) dX9_putTo_196 fo_X9_35 ok29 rfl rfl ?_
                                refine T.iload_n dX9_putTo_199 rfl ?_
                                refine T.iload dX9_putTo_200 rfl ?_
                                refine T.nist (x := d) dX9_putTo_202 rfl ok41 (fun _ => rfl) rfl (by omega) ?_
                                refine T.lload dX9_putTo_203 rfl ?_
                                have hW : (if S 46 d ≠ 0 ∧ S 42 d < 0 then y else S 42 d) = S 42 d := by split <;> omega
                                exact T.lret dX9_putTo_205 ⟨by rw [hp3], congrArg (fun z => hp E (wrM m z)) (Eq.symm (show ntS S l d a y = (upT (upT (upT (upT (upT (upT S 39 d ((S 39 d) - (min a (S 39 d)))) 43 d ((S 43 d) + (min a (S 39 d)))) 40 d ((S 40 d) - (min (a - (min a (S 39 d))) (S 40 d)))) 44 d ((S 44 d) + (min (a - (min a (S 39 d))) (S 40 d)))) 42 d (S 42 d)) 41 d y) from by unfold ntS; rw [if_pos (by omega), hp1, hp2]; unfold ntW; rw [hW]; rfl))⟩
                              · refine T.aload_n dX9_putTo_174 rfl ?_
                                refine T.mget (v := rf E 42 0 0) dX9_putTo_175 fo_X9_38 ok29 rfl rfl ?_
                                refine T.iload_n dX9_putTo_178 rfl ?_
                                refine T.aI (z := S 42 d) (x := d) dX9_putTo_179 ok42 (fun _ => rfl) rfl (by omega) ((wrM_c rfl).trans (by simp [upT])) ?_
                                have q28 : -4 ≤ S 42 d ∧ S 42 d ≤ 299 := hS 42 d rfl
                                refine T.if_ge 188 dX9_putTo_180 (by unfold rg; omega) (fun c29 => ?_) (fun c29 => ?_)
                                · refine T.aload_n dX9_putTo_188 rfl ?_
                                  refine T.mget (v := rf E 42 0 0) dX9_putTo_189 fo_X9_38 ok29 rfl rfl ?_
                                  refine T.iload_n dX9_putTo_192 rfl ?_
                                  refine T.aI (z := S 42 d) (x := d) dX9_putTo_193 ok42 (fun _ => rfl) rfl (by omega) ((wrM_c rfl).trans (by simp [upT])) ?_
                                  refine T.nist (x := d) dX9_putTo_194 rfl ok42 (fun _ => rfl) rfl (by omega) ?_
                                  refine T.aload_n dX9_putTo_195 rfl ?_
                                  refine T.mget (v := rf E 41 0 0) dX9_putTo_196 fo_X9_35 ok29 rfl rfl ?_
                                  refine T.iload_n dX9_putTo_199 rfl ?_
                                  refine T.iload dX9_putTo_200 rfl ?_
                                  refine T.nist (x := d) dX9_putTo_202 rfl ok41 (fun _ => rfl) rfl (by omega) ?_
                                  refine T.lload dX9_putTo_203 rfl ?_
                                  have hW : (if S 46 d ≠ 0 ∧ S 42 d < 0 then y else S 42 d) = S 42 d := by split <;> omega
                                  exact T.lret dX9_putTo_205 ⟨by rw [hp3], congrArg (fun z => hp E (wrM m z)) (Eq.symm (show ntS S l d a y = (upT (upT (upT (upT (upT (upT S 39 d ((S 39 d) - (min a (S 39 d)))) 43 d ((S 43 d) + (min a (S 39 d)))) 40 d ((S 40 d) - (min (a - (min a (S 39 d))) (S 40 d)))) 44 d ((S 44 d) + (min (a - (min a (S 39 d))) (S 40 d)))) 42 d (S 42 d)) 41 d y) from by unfold ntS; rw [if_pos (by omega), hp1, hp2]; unfold ntW; rw [hW]; rfl))⟩
                                · refine T.iload dX9_putTo_183 rfl ?_
                                  refine T.goto 194 dX9_putTo_185 ?_
                                  refine T.nist (x := d) dX9_putTo_194 rfl ok42 (fun _ => rfl) rfl (by omega) ?_
                                  refine T.aload_n dX9_putTo_195 rfl ?_
                                  refine T.mget (v := rf E 41 0 0) dX9_putTo_196 fo_X9_35 ok29 rfl rfl ?_
                                  refine T.iload_n dX9_putTo_199 rfl ?_
                                  refine T.iload dX9_putTo_200 rfl ?_
                                  refine T.nist (x := d) dX9_putTo_202 rfl ok41 (fun _ => rfl) rfl (by omega) ?_
                                  refine T.lload dX9_putTo_203 rfl ?_
                                  have hW : (if S 46 d ≠ 0 ∧ S 42 d < 0 then y else S 42 d) = y := by split <;> omega
                                  exact T.lret dX9_putTo_205 ⟨by rw [hp3], congrArg (fun z => hp E (wrM m z)) (Eq.symm (show ntS S l d a y = (upT (upT (upT (upT (upT (upT S 39 d ((S 39 d) - (min a (S 39 d)))) 43 d ((S 43 d) + (min a (S 39 d)))) 40 d ((S 40 d) - (min (a - (min a (S 39 d))) (S 40 d)))) 44 d ((S 44 d) + (min (a - (min a (S 39 d))) (S 40 d)))) 42 d y) 41 d y) from by unfold ntS; rw [if_pos (by omega), hp1, hp2]; unfold ntW; rw [hW]; rfl))⟩
                          · exact absurd c23 (by omega)
                        · exact absurd c22 (by omega)
                    · exact absurd c11 (by omega)
                  · exact absurd c10 (by omega)
                · exact absurd c9 (by omega)
          · refine T.lload dX9_putTo_73 rfl ?_
            refine T.goto 80 dX9_putTo_75 ?_
            refine T.topl (z := min a (S 39 d)) (congrArg lI (by omega)) ?_
            refine T.lstore (ls' := [some (rf E 29 0 0), some (.int (iI (l : Int))), some (.int (iI (d : Int))), some (.long (lI a)), none, some (.int (iI y)), some (.int (iI 1)), some (.long (lI a)), none, some (.int (iI 0)), some (.int (iI 1)), some (.long (lI (S 39 d))), none, some (.long (lI (min a (S 39 d)))), none]) dX9_putTo_80 rfl ?_
            refine T.iload dX9_putTo_82 rfl ?_
            refine T.if_eq 112 dX9_putTo_84 (by unfold rg; omega) (fun c30 => ?_) (fun c30 => ?_)
            · exact absurd c30 (by omega)
            · refine T.aload_n dX9_putTo_87 rfl ?_
              refine T.mget (v := rf E 39 0 0) dX9_putTo_88 fo_X9_28 ok29 rfl rfl ?_
              refine T.iload_n dX9_putTo_91 rfl ?_
              refine T.dup2 dX9_putTo_92 ?_
              refine T.aL (z := S 39 d) (x := d) dX9_putTo_93 ok39 (fun _ => rfl) rfl (by omega) (wrM_c rfl) ?_
              refine T.lload dX9_putTo_94 rfl ?_
              refine T.lsub dX9_putTo_96 ?_
              refine T.nlst (x := d) dX9_putTo_97 rfl ok39 (fun _ => rfl) rfl (by omega) ?_
              refine T.aload_n dX9_putTo_98 rfl ?_
              refine T.mget (v := rf E 43 0 0) dX9_putTo_99 fo_X9_41 ok29 rfl rfl ?_
              refine T.iload_n dX9_putTo_102 rfl ?_
              refine T.dup2 dX9_putTo_103 ?_
              refine T.aL (z := S 43 d) (x := d) dX9_putTo_104 ok43 (fun _ => rfl) rfl (by omega) ((wrM_c rfl).trans (by simp [upT])) ?_
              refine T.lload dX9_putTo_105 rfl ?_
              refine T.ladd dX9_putTo_107 ?_
              refine T.nlst (x := d) dX9_putTo_108 rfl ok43 (fun _ => rfl) rfl (by omega) ?_
              refine T.goto 134 dX9_putTo_109 ?_
              refine T.lload dX9_putTo_134 rfl ?_
              refine T.lload dX9_putTo_136 rfl ?_
              refine T.lsub dX9_putTo_138 ?_
              refine T.lstore (ls' := [some (rf E 29 0 0), some (.int (iI (l : Int))), some (.int (iI (d : Int))), some (.long (lI a)), none, some (.int (iI y)), some (.int (iI 1)), some (.long (lI (a - (min a (S 39 d))))), none, some (.int (iI 0)), some (.int (iI 1)), some (.long (lI (S 39 d))), none, some (.long (lI (min a (S 39 d)))), none]) dX9_putTo_139 rfl ?_
              refine T.iinc (ls' := [some (rf E 29 0 0), some (.int (iI (l : Int))), some (.int (iI (d : Int))), some (.long (lI a)), none, some (.int (iI y)), some (.int (iI 1)), some (.long (lI (a - (min a (S 39 d))))), none, some (.int (iI (0 + 1))), some (.int (iI 1)), some (.long (lI (S 39 d))), none, some (.long (lI (min a (S 39 d)))), none]) dX9_putTo_141 rfl rfl ?_
              refine T.goto 15 dX9_putTo_144 ?_
              refine T.iload dX9_putTo_15 rfl ?_
              refine T.iconst dX9_putTo_17 ?_
              refine T.icmp_ge 147 dX9_putTo_18 (by unfold rg; omega) (by unfold rg; omega) (fun c31 => ?_) (fun c31 => ?_)
              · exact absurd c31 (by omega)
              · refine T.iload dX9_putTo_21 rfl ?_
                refine T.iload dX9_putTo_23 rfl ?_
                refine T.if_ne 32 dX9_putTo_25 (by unfold rg; omega) (fun c32 => ?_) (fun c32 => ?_)
                · refine T.iconst dX9_putTo_32 ?_
                  refine T.icmp_ne 40 dX9_putTo_33 (by unfold rg; omega) (by unfold rg; omega) (fun c33 => ?_) (fun c33 => ?_)
                  · refine T.iconst dX9_putTo_40 ?_
                    refine T.istore (ls' := [some (rf E 29 0 0), some (.int (iI (l : Int))), some (.int (iI (d : Int))), some (.long (lI a)), none, some (.int (iI y)), some (.int (iI 1)), some (.long (lI (a - (min a (S 39 d))))), none, some (.int (iI (0 + 1))), some (.int (iI 0)), some (.long (lI (S 39 d))), none, some (.long (lI (min a (S 39 d)))), none]) dX9_putTo_41 rfl ?_
                    refine T.iload dX9_putTo_43 rfl ?_
                    refine T.if_eq 57 dX9_putTo_45 (by unfold rg; omega) (fun c34 => ?_) (fun c34 => ?_)
                    · refine T.aload_n dX9_putTo_57 rfl ?_
                      refine T.mget (v := rf E 40 0 0) dX9_putTo_58 fo_X9_32 ok29 rfl rfl ?_
                      refine T.iload_n dX9_putTo_61 rfl ?_
                      refine T.aL (z := S 40 d) (x := d) dX9_putTo_62 ok40 (fun _ => rfl) rfl (by omega) ((wrM_c rfl).trans (by simp [upT])) ?_
                      have q35 : 0 ≤ S 40 d ∧ S 40 d ≤ 4000000000 := hS 40 d rfl
                      refine T.lstore (ls' := [some (rf E 29 0 0), some (.int (iI (l : Int))), some (.int (iI (d : Int))), some (.long (lI a)), none, some (.int (iI y)), some (.int (iI 1)), some (.long (lI (a - (min a (S 39 d))))), none, some (.int (iI (0 + 1))), some (.int (iI 0)), some (.long (lI (S 40 d))), none, some (.long (lI (min a (S 39 d)))), none]) dX9_putTo_63 rfl ?_
                      refine T.lload dX9_putTo_65 rfl ?_
                      refine T.lload dX9_putTo_67 rfl ?_
                      refine T.lcmp_ge 78 dX9_putTo_69 dX9_putTo_70 (by unfold rl; omega) (by unfold rl; omega) (fun c36 => ?_) (fun c36 => ?_)
                      · refine T.lload dX9_putTo_78 rfl ?_
                        refine T.topl (z := min (a - (min a (S 39 d))) (S 40 d)) (congrArg lI (by omega)) ?_
                        refine T.lstore (ls' := [some (rf E 29 0 0), some (.int (iI (l : Int))), some (.int (iI (d : Int))), some (.long (lI a)), none, some (.int (iI y)), some (.int (iI 1)), some (.long (lI (a - (min a (S 39 d))))), none, some (.int (iI (0 + 1))), some (.int (iI 0)), some (.long (lI (S 40 d))), none, some (.long (lI (min (a - (min a (S 39 d))) (S 40 d)))), none]) dX9_putTo_80 rfl ?_
                        refine T.iload dX9_putTo_82 rfl ?_
                        refine T.if_eq 112 dX9_putTo_84 (by unfold rg; omega) (fun c37 => ?_) (fun c37 => ?_)
                        · refine T.aload_n dX9_putTo_112 rfl ?_
                          refine T.mget (v := rf E 40 0 0) dX9_putTo_113 fo_X9_32 ok29 rfl rfl ?_
                          refine T.iload_n dX9_putTo_116 rfl ?_
                          refine T.dup2 dX9_putTo_117 ?_
                          refine T.aL (z := S 40 d) (x := d) dX9_putTo_118 ok40 (fun _ => rfl) rfl (by omega) ((wrM_c rfl).trans (by simp [upT])) ?_
                          refine T.lload dX9_putTo_119 rfl ?_
                          refine T.lsub dX9_putTo_121 ?_
                          refine T.nlst (x := d) dX9_putTo_122 rfl ok40 (fun _ => rfl) rfl (by omega) ?_
                          refine T.aload_n dX9_putTo_123 rfl ?_
                          refine T.mget (v := rf E 44 0 0) dX9_putTo_124 fo_X9_44 ok29 rfl rfl ?_
                          refine T.iload_n dX9_putTo_127 rfl ?_
                          refine T.dup2 dX9_putTo_128 ?_
                          refine T.aL (z := S 44 d) (x := d) dX9_putTo_129 ok44 (fun _ => rfl) rfl (by omega) ((wrM_c rfl).trans (by simp [upT])) ?_
                          refine T.lload dX9_putTo_130 rfl ?_
                          refine T.ladd dX9_putTo_132 ?_
                          refine T.nlst (x := d) dX9_putTo_133 rfl ok44 (fun _ => rfl) rfl (by omega) ?_
                          refine T.lload dX9_putTo_134 rfl ?_
                          refine T.lload dX9_putTo_136 rfl ?_
                          refine T.lsub dX9_putTo_138 ?_
                          refine T.lstore (ls' := [some (rf E 29 0 0), some (.int (iI (l : Int))), some (.int (iI (d : Int))), some (.long (lI a)), none, some (.int (iI y)), some (.int (iI 1)), some (.long (lI ((a - (min a (S 39 d))) - (min (a - (min a (S 39 d))) (S 40 d))))), none, some (.int (iI (0 + 1))), some (.int (iI 0)), some (.long (lI (S 40 d))), none, some (.long (lI (min (a - (min a (S 39 d))) (S 40 d)))), none]) dX9_putTo_139 rfl ?_
                          refine T.iinc (ls' := [some (rf E 29 0 0), some (.int (iI (l : Int))), some (.int (iI (d : Int))), some (.long (lI a)), none, some (.int (iI y)), some (.int (iI 1)), some (.long (lI ((a - (min a (S 39 d))) - (min (a - (min a (S 39 d))) (S 40 d))))), none, some (.int (iI (0 + 1 + 1))), some (.int (iI 0)), some (.long (lI (S 40 d))), none, some (.long (lI (min (a - (min a (S 39 d))) (S 40 d)))), none]) dX9_putTo_141 rfl rfl ?_
                          refine T.goto 15 dX9_putTo_144 ?_
                          refine T.iload dX9_putTo_15 rfl ?_
                          refine T.iconst dX9_putTo_17 ?_
                          refine T.icmp_ge 147 dX9_putTo_18 (by unfold rg; omega) (by unfold rg; omega) (fun c38 => ?_) (fun c38 => ?_)
                          · refine T.lload_n dX9_putTo_147 rfl ?_
                            refine T.lload dX9_putTo_148 rfl ?_
                            refine T.lsub dX9_putTo_150 ?_
                            refine T.lstore (ls' := [some (rf E 29 0 0), some (.int (iI (l : Int))), some (.int (iI (d : Int))), some (.long (lI a)), none, some (.int (iI y)), some (.int (iI 1)), some (.long (lI ((a - (min a (S 39 d))) - (min (a - (min a (S 39 d))) (S 40 d))))), none, some (.long (lI (a - ((a - (min a (S 39 d))) - (min (a - (min a (S 39 d))) (S 40 d)))))), none, some (.long (lI (S 40 d))), none, some (.long (lI (min (a - (min a (S 39 d))) (S 40 d)))), none]) dX9_putTo_151 rfl ?_
                            have hp1 : nts S l d a = min a (S 39 d) := if_pos hs
                            have hp2 : ntr S l d a = min (a - min a (S 39 d)) (S 40 d) := if_pos hs
                            have hp3 : ntR S l d a = a - ((a - (min a (S 39 d))) - (min (a - (min a (S 39 d))) (S 40 d))) := by unfold ntR; rw [hp1, hp2]; omega
                            refine T.lload dX9_putTo_153 rfl ?_
                            refine T.lconst0 dX9_putTo_155 ?_
                            refine T.lcmp_le 203 dX9_putTo_156 dX9_putTo_157 (by unfold rl; omega) (by unfold rl; omega) (fun c39 => ?_) (fun c39 => ?_)
                            · refine T.lload dX9_putTo_203 rfl ?_
                              exact T.lret dX9_putTo_205 ⟨by rw [hp3], congrArg (fun z => hp E (wrM m z)) (Eq.symm (show ntS S l d a y = (upT (upT (upT (upT S 39 d ((S 39 d) - (min a (S 39 d)))) 43 d ((S 43 d) + (min a (S 39 d)))) 40 d ((S 40 d) - (min (a - (min a (S 39 d))) (S 40 d)))) 44 d ((S 44 d) + (min (a - (min a (S 39 d))) (S 40 d)))) from by unfold ntS; rw [if_neg (by omega), hp1, hp2]; rfl))⟩
                            · refine T.aload_n dX9_putTo_160 rfl ?_
                              refine T.mget (v := rf E 42 0 0) dX9_putTo_161 fo_X9_38 ok29 rfl rfl ?_
                              refine T.iload_n dX9_putTo_164 rfl ?_
                              refine T.aload_n dX9_putTo_165 rfl ?_
                              refine T.mget (v := rf E 46 0 0) dX9_putTo_166 fo_X9_47 ok29 rfl rfl ?_
                              refine T.iload_n dX9_putTo_169 rfl ?_
                              refine T.aZ (z := S 46 d) (x := d) dX9_putTo_170 ok46 (fun _ => rfl) rfl (by omega) ((wrM_c rfl).trans (by simp [upT])) ?_
                              have q40 : 0 ≤ S 46 d ∧ S 46 d ≤ 1 := hS 46 d rfl
                              refine T.if_eq 188 dX9_putTo_171 (by unfold rg; omega) (fun c41 => ?_) (fun c41 => ?_)
                              · refine T.aload_n dX9_putTo_188 rfl ?_
                                refine T.mget (v := rf E 42 0 0) dX9_putTo_189 fo_X9_38 ok29 rfl rfl ?_
                                refine T.iload_n dX9_putTo_192 rfl ?_
                                refine T.aI (z := S 42 d) (x := d) dX9_putTo_193 ok42 (fun _ => rfl) rfl (by omega) ((wrM_c rfl).trans (by simp [upT])) ?_
                                have q42 : -4 ≤ S 42 d ∧ S 42 d ≤ 299 := hS 42 d rfl
                                refine T.nist (x := d) dX9_putTo_194 rfl ok42 (fun _ => rfl) rfl (by omega) ?_
                                refine T.aload_n dX9_putTo_195 rfl ?_
                                refine T.mget (v := rf E 41 0 0) dX9_putTo_196 fo_X9_35 ok29 rfl rfl ?_
                                refine T.iload_n dX9_putTo_199 rfl ?_
                                refine T.iload dX9_putTo_200 rfl ?_
                                refine T.nist (x := d) dX9_putTo_202 rfl ok41 (fun _ => rfl) rfl (by omega) ?_
                                refine T.lload dX9_putTo_203 rfl ?_
                                have hW : (if S 46 d ≠ 0 ∧ S 42 d < 0 then y else S 42 d) = S 42 d := by split <;> omega
                                exact T.lret dX9_putTo_205 ⟨by rw [hp3], congrArg (fun z => hp E (wrM m z)) (Eq.symm (show ntS S l d a y = (upT (upT (upT (upT (upT (upT S 39 d ((S 39 d) - (min a (S 39 d)))) 43 d ((S 43 d) + (min a (S 39 d)))) 40 d ((S 40 d) - (min (a - (min a (S 39 d))) (S 40 d)))) 44 d ((S 44 d) + (min (a - (min a (S 39 d))) (S 40 d)))) 42 d (S 42 d)) 41 d y) from by unfold ntS; rw [if_pos (by omega), hp1, hp2]; unfold ntW; rw [hW]; rfl))⟩
                              · refine T.aload_n dX9_putTo_174 rfl ?_
                                refine T.mget (v := rf E 42 0 0) dX9_putTo_175 fo_X9_38 ok29 rfl rfl ?_
                                refine T.iload_n dX9_putTo_178 rfl ?_
                                refine T.aI (z := S 42 d) (x := d) dX9_putTo_179 ok42 (fun _ => rfl) rfl (by omega) ((wrM_c rfl).trans (by simp [upT])) ?_
                                have q43 : -4 ≤ S 42 d ∧ S 42 d ≤ 299 := hS 42 d rfl
                                refine T.if_ge 188 dX9_putTo_180 (by unfold rg; omega) (fun c44 => ?_) (fun c44 => ?_)
                                · refine T.aload_n dX9_putTo_188 rfl ?_
                                  refine T.mget (v := rf E 42 0 0) dX9_putTo_189 fo_X9_38 ok29 rfl rfl ?_
                                  refine T.iload_n dX9_putTo_192 rfl ?_
                                  refine T.aI (z := S 42 d) (x := d) dX9_putTo_193 ok42 (fun _ => rfl) rfl (by omega) ((wrM_c rfl).trans (by simp [upT])) ?_
                                  refine T.nist (x := d) dX9_putTo_194 rfl ok42 (fun _ => rfl) rfl (by omega) ?_
                                  refine T.aload_n dX9_putTo_195 rfl ?_
                                  refine T.mget (v := rf E 41 0 0) dX9_putTo_196 fo_X9_35 ok29 rfl rfl ?_
                                  refine T.iload_n dX9_putTo_199 rfl ?_
                                  refine T.iload dX9_putTo_200 rfl ?_
                                  refine T.nist (x := d) dX9_putTo_202 rfl ok41 (fun _ => rfl) rfl (by omega) ?_
                                  refine T.lload dX9_putTo_203 rfl ?_
                                  have hW : (if S 46 d ≠ 0 ∧ S 42 d < 0 then y else S 42 d) = S 42 d := by split <;> omega
                                  exact T.lret dX9_putTo_205 ⟨by rw [hp3], congrArg (fun z => hp E (wrM m z)) (Eq.symm (show ntS S l d a y = (upT (upT (upT (upT (upT (upT S 39 d ((S 39 d) - (min a (S 39 d)))) 43 d ((S 43 d) + (min a (S 39 d)))) 40 d ((S 40 d) - (min (a - (min a (S 39 d))) (S 40 d)))) 44 d ((S 44 d) + (min (a - (min a (S 39 d))) (S 40 d)))) 42 d (S 42 d)) 41 d y) from by unfold ntS; rw [if_pos (by omega), hp1, hp2]; unfold ntW; rw [hW]; rfl))⟩
                                · refine T.iload dX9_putTo_183 rfl ?_
                                  refine T.goto 194 dX9_putTo_185 ?_
                                  refine T.nist (x := d) dX9_putTo_194 rfl ok42 (fun _ => rfl) rfl (by omega) ?_
                                  refine T.aload_n dX9_putTo_195 rfl ?_
                                  refine T.mget (v := rf E 41 0 0) dX9_putTo_196 fo_X9_35 ok29 rfl rfl ?_
                                  refine T.iload_n dX9_putTo_199 rfl ?_
                                  refine T.iload dX9_putTo_200 rfl ?_
                                  refine T.nist (x := d) dX9_putTo_202 rfl ok41 (fun _ => rfl) rfl (by omega) ?_
                                  refine T.lload dX9_putTo_203 rfl ?_
                                  have hW : (if S 46 d ≠ 0 ∧ S 42 d < 0 then y else S 42 d) = y := by split <;> omega
                                  exact T.lret dX9_putTo_205 ⟨by rw [hp3], congrArg (fun z => hp E (wrM m z)) (Eq.symm (show ntS S l d a y = (upT (upT (upT (upT (upT (upT S 39 d ((S 39 d) - (min a (S 39 d)))) 43 d ((S 43 d) + (min a (S 39 d)))) 40 d ((S 40 d) - (min (a - (min a (S 39 d))) (S 40 d)))) 44 d ((S 44 d) + (min (a - (min a (S 39 d))) (S 40 d)))) 42 d y) 41 d y) from by unfold ntS; rw [if_pos (by omega), hp1, hp2]; unfold ntW; rw [hW]; rfl))⟩
                          · exact absurd c38 (by omega)
                        · exact absurd c37 (by omega)
                      · refine T.lload dX9_putTo_73 rfl ?_
                        refine T.goto 80 dX9_putTo_75 ?_
                        refine T.topl (z := min (a - (min a (S 39 d))) (S 40 d)) (congrArg lI (by omega)) ?_
                        refine T.lstore (ls' := [some (rf E 29 0 0), some (.int (iI (l : Int))), some (.int (iI (d : Int))), some (.long (lI a)), none, some (.int (iI y)), some (.int (iI 1)), some (.long (lI (a - (min a (S 39 d))))), none, some (.int (iI (0 + 1))), some (.int (iI 0)), some (.long (lI (S 40 d))), none, some (.long (lI (min (a - (min a (S 39 d))) (S 40 d)))), none]) dX9_putTo_80 rfl ?_
                        refine T.iload dX9_putTo_82 rfl ?_
                        refine T.if_eq 112 dX9_putTo_84 (by unfold rg; omega) (fun c45 => ?_) (fun c45 => ?_)
                        · refine T.aload_n dX9_putTo_112 rfl ?_
                          refine T.mget (v := rf E 40 0 0) dX9_putTo_113 fo_X9_32 ok29 rfl rfl ?_
                          refine T.iload_n dX9_putTo_116 rfl ?_
                          refine T.dup2 dX9_putTo_117 ?_
                          refine T.aL (z := S 40 d) (x := d) dX9_putTo_118 ok40 (fun _ => rfl) rfl (by omega) ((wrM_c rfl).trans (by simp [upT])) ?_
                          refine T.lload dX9_putTo_119 rfl ?_
                          refine T.lsub dX9_putTo_121 ?_
                          refine T.nlst (x := d) dX9_putTo_122 rfl ok40 (fun _ => rfl) rfl (by omega) ?_
                          refine T.aload_n dX9_putTo_123 rfl ?_
                          refine T.mget (v := rf E 44 0 0) dX9_putTo_124 fo_X9_44 ok29 rfl rfl ?_
                          refine T.iload_n dX9_putTo_127 rfl ?_
                          refine T.dup2 dX9_putTo_128 ?_
                          refine T.aL (z := S 44 d) (x := d) dX9_putTo_129 ok44 (fun _ => rfl) rfl (by omega) ((wrM_c rfl).trans (by simp [upT])) ?_
                          refine T.lload dX9_putTo_130 rfl ?_
                          refine T.ladd dX9_putTo_132 ?_
                          refine T.nlst (x := d) dX9_putTo_133 rfl ok44 (fun _ => rfl) rfl (by omega) ?_
                          refine T.lload dX9_putTo_134 rfl ?_
                          refine T.lload dX9_putTo_136 rfl ?_
                          refine T.lsub dX9_putTo_138 ?_
                          refine T.lstore (ls' := [some (rf E 29 0 0), some (.int (iI (l : Int))), some (.int (iI (d : Int))), some (.long (lI a)), none, some (.int (iI y)), some (.int (iI 1)), some (.long (lI ((a - (min a (S 39 d))) - (min (a - (min a (S 39 d))) (S 40 d))))), none, some (.int (iI (0 + 1))), some (.int (iI 0)), some (.long (lI (S 40 d))), none, some (.long (lI (min (a - (min a (S 39 d))) (S 40 d)))), none]) dX9_putTo_139 rfl ?_
                          refine T.iinc (ls' := [some (rf E 29 0 0), some (.int (iI (l : Int))), some (.int (iI (d : Int))), some (.long (lI a)), none, some (.int (iI y)), some (.int (iI 1)), some (.long (lI ((a - (min a (S 39 d))) - (min (a - (min a (S 39 d))) (S 40 d))))), none, some (.int (iI (0 + 1 + 1))), some (.int (iI 0)), some (.long (lI (S 40 d))), none, some (.long (lI (min (a - (min a (S 39 d))) (S 40 d)))), none]) dX9_putTo_141 rfl rfl ?_
                          refine T.goto 15 dX9_putTo_144 ?_
                          refine T.iload dX9_putTo_15 rfl ?_
                          refine T.iconst dX9_putTo_17 ?_
                          refine T.icmp_ge 147 dX9_putTo_18 (by unfold rg; omega) (by unfold rg; omega) (fun c46 => ?_) (fun c46 => ?_)
                          · refine T.lload_n dX9_putTo_147 rfl ?_
                            refine T.lload dX9_putTo_148 rfl ?_
                            refine T.lsub dX9_putTo_150 ?_
                            refine T.lstore (ls' := [some (rf E 29 0 0), some (.int (iI (l : Int))), some (.int (iI (d : Int))), some (.long (lI a)), none, some (.int (iI y)), some (.int (iI 1)), some (.long (lI ((a - (min a (S 39 d))) - (min (a - (min a (S 39 d))) (S 40 d))))), none, some (.long (lI (a - ((a - (min a (S 39 d))) - (min (a - (min a (S 39 d))) (S 40 d)))))), none, some (.long (lI (S 40 d))), none, some (.long (lI (min (a - (min a (S 39 d))) (S 40 d)))), none]) dX9_putTo_151 rfl ?_
                            have hp1 : nts S l d a = min a (S 39 d) := if_pos hs
                            have hp2 : ntr S l d a = min (a - min a (S 39 d)) (S 40 d) := if_pos hs
                            have hp3 : ntR S l d a = a - ((a - (min a (S 39 d))) - (min (a - (min a (S 39 d))) (S 40 d))) := by unfold ntR; rw [hp1, hp2]; omega
                            refine T.lload dX9_putTo_153 rfl ?_
                            refine T.lconst0 dX9_putTo_155 ?_
                            refine T.lcmp_le 203 dX9_putTo_156 dX9_putTo_157 (by unfold rl; omega) (by unfold rl; omega) (fun c47 => ?_) (fun c47 => ?_)
                            · refine T.lload dX9_putTo_203 rfl ?_
                              exact T.lret dX9_putTo_205 ⟨by rw [hp3], congrArg (fun z => hp E (wrM m z)) (Eq.symm (show ntS S l d a y = (upT (upT (upT (upT S 39 d ((S 39 d) - (min a (S 39 d)))) 43 d ((S 43 d) + (min a (S 39 d)))) 40 d ((S 40 d) - (min (a - (min a (S 39 d))) (S 40 d)))) 44 d ((S 44 d) + (min (a - (min a (S 39 d))) (S 40 d)))) from by unfold ntS; rw [if_neg (by omega), hp1, hp2]; rfl))⟩
                            · refine T.aload_n dX9_putTo_160 rfl ?_
                              refine T.mget (v := rf E 42 0 0) dX9_putTo_161 fo_X9_38 ok29 rfl rfl ?_
                              refine T.iload_n dX9_putTo_164 rfl ?_
                              refine T.aload_n dX9_putTo_165 rfl ?_
                              refine T.mget (v := rf E 46 0 0) dX9_putTo_166 fo_X9_47 ok29 rfl rfl ?_
                              refine T.iload_n dX9_putTo_169 rfl ?_
                              refine T.aZ (z := S 46 d) (x := d) dX9_putTo_170 ok46 (fun _ => rfl) rfl (by omega) ((wrM_c rfl).trans (by simp [upT])) ?_
                              have q48 : 0 ≤ S 46 d ∧ S 46 d ≤ 1 := hS 46 d rfl
                              refine T.if_eq 188 dX9_putTo_171 (by unfold rg; omega) (fun c49 => ?_) (fun c49 => ?_)
                              · refine T.aload_n dX9_putTo_188 rfl ?_
                                refine T.mget (v := rf E 42 0 0) dX9_putTo_189 fo_X9_38 ok29 rfl rfl ?_
                                refine T.iload_n dX9_putTo_192 rfl ?_
                                refine T.aI (z := S 42 d) (x := d) dX9_putTo_193 ok42 (fun _ => rfl) rfl (by omega) ((wrM_c rfl).trans (by simp [upT])) ?_
                                have q50 : -4 ≤ S 42 d ∧ S 42 d ≤ 299 := hS 42 d rfl
                                refine T.nist (x := d) dX9_putTo_194 rfl ok42 (fun _ => rfl) rfl (by omega) ?_
                                refine T.aload_n dX9_putTo_195 rfl ?_
                                refine T.mget (v := rf E 41 0 0) dX9_putTo_196 fo_X9_35 ok29 rfl rfl ?_
                                refine T.iload_n dX9_putTo_199 rfl ?_
                                refine T.iload dX9_putTo_200 rfl ?_
                                refine T.nist (x := d) dX9_putTo_202 rfl ok41 (fun _ => rfl) rfl (by omega) ?_
                                refine T.lload dX9_putTo_203 rfl ?_
                                have hW : (if S 46 d ≠ 0 ∧ S 42 d < 0 then y else S 42 d) = S 42 d := by split <;> omega
                                exact T.lret dX9_putTo_205 ⟨by rw [hp3], congrArg (fun z => hp E (wrM m z)) (Eq.symm (show ntS S l d a y = (upT (upT (upT (upT (upT (upT S 39 d ((S 39 d) - (min a (S 39 d)))) 43 d ((S 43 d) + (min a (S 39 d)))) 40 d ((S 40 d) - (min (a - (min a (S 39 d))) (S 40 d)))) 44 d ((S 44 d) + (min (a - (min a (S 39 d))) (S 40 d)))) 42 d (S 42 d)) 41 d y) from by unfold ntS; rw [if_pos (by omega), hp1, hp2]; unfold ntW; rw [hW]; rfl))⟩
                              · refine T.aload_n dX9_putTo_174 rfl ?_
                                refine T.mget (v := rf E 42 0 0) dX9_putTo_175 fo_X9_38 ok29 rfl rfl ?_
                                refine T.iload_n dX9_putTo_178 rfl ?_
                                refine T.aI (z := S 42 d) (x := d) dX9_putTo_179 ok42 (fun _ => rfl) rfl (by omega) ((wrM_c rfl).trans (by simp [upT])) ?_
                                have q51 : -4 ≤ S 42 d ∧ S 42 d ≤ 299 := hS 42 d rfl
                                refine T.if_ge 188 dX9_putTo_180 (by unfold rg; omega) (fun c52 => ?_) (fun c52 => ?_)
                                · refine T.aload_n dX9_putTo_188 rfl ?_
                                  refine T.mget (v := rf E 42 0 0) dX9_putTo_189 fo_X9_38 ok29 rfl rfl ?_
                                  refine T.iload_n dX9_putTo_192 rfl ?_
                                  refine T.aI (z := S 42 d) (x := d) dX9_putTo_193 ok42 (fun _ => rfl) rfl (by omega) ((wrM_c rfl).trans (by simp [upT])) ?_
                                  refine T.nist (x := d) dX9_putTo_194 rfl ok42 (fun _ => rfl) rfl (by omega) ?_
                                  refine T.aload_n dX9_putTo_195 rfl ?_
                                  refine T.mget (v := rf E 41 0 0) dX9_putTo_196 fo_X9_35 ok29 rfl rfl ?_
                                  refine T.iload_n dX9_putTo_199 rfl ?_
                                  refine T.iload dX9_putTo_200 rfl ?_
                                  refine T.nist (x := d) dX9_putTo_202 rfl ok41 (fun _ => rfl) rfl (by omega) ?_
                                  refine T.lload dX9_putTo_203 rfl ?_
                                  have hW : (if S 46 d ≠ 0 ∧ S 42 d < 0 then y else S 42 d) = S 42 d := by split <;> omega
                                  exact T.lret dX9_putTo_205 ⟨by rw [hp3], congrArg (fun z => hp E (wrM m z)) (Eq.symm (show ntS S l d a y = (upT (upT (upT (upT (upT (upT S 39 d ((S 39 d) - (min a (S 39 d)))) 43 d ((S 43 d) + (min a (S 39 d)))) 40 d ((S 40 d) - (min (a - (min a (S 39 d))) (S 40 d)))) 44 d ((S 44 d) + (min (a - (min a (S 39 d))) (S 40 d)))) 42 d (S 42 d)) 41 d y) from by unfold ntS; rw [if_pos (by omega), hp1, hp2]; unfold ntW; rw [hW]; rfl))⟩
                                · refine T.iload dX9_putTo_183 rfl ?_
                                  refine T.goto 194 dX9_putTo_185 ?_
                                  refine T.nist (x := d) dX9_putTo_194 rfl ok42 (fun _ => rfl) rfl (by omega) ?_
                                  refine T.aload_n dX9_putTo_195 rfl ?_
                                  refine T.mget (v := rf E 41 0 0) dX9_putTo_196 fo_X9_35 ok29 rfl rfl ?_
                                  refine T.iload_n dX9_putTo_199 rfl ?_
                                  refine T.iload dX9_putTo_200 rfl ?_
                                  refine T.nist (x := d) dX9_putTo_202 rfl ok41 (fun _ => rfl) rfl (by omega) ?_
                                  refine T.lload dX9_putTo_203 rfl ?_
                                  have hW : (if S 46 d ≠ 0 ∧ S 42 d < 0 then y else S 42 d) = y := by split <;> omega
                                  exact T.lret dX9_putTo_205 ⟨by rw [hp3], congrArg (fun z => hp E (wrM m z)) (Eq.symm (show ntS S l d a y = (upT (upT (upT (upT (upT (upT S 39 d ((S 39 d) - (min a (S 39 d)))) 43 d ((S 43 d) + (min a (S 39 d)))) 40 d ((S 40 d) - (min (a - (min a (S 39 d))) (S 40 d)))) 44 d ((S 44 d) + (min (a - (min a (S 39 d))) (S 40 d)))) 42 d y) 41 d y) from by unfold ntS; rw [if_pos (by omega), hp1, hp2]; unfold ntW; rw [hW]; rfl))⟩
                          · exact absurd c46 (by omega)
                        · exact absurd c45 (by omega)
                    · exact absurd c34 (by omega)
                  · exact absurd c33 (by omega)
                · exact absurd c32 (by omega)
set_option maxHeartbeats 4000000 in
set_option maxRecDepth 100000 in
theorem n_putTo_f (E : Ev) (m : Mem) (S : PS) (l d : Nat) (a y : Int) (hS : InvS kM S) (hl : l < 2) (hd : d < 8) (ha : 0 ≤ a ∧ a ≤ 9000000000000000000) (hs : ¬ hasM S l 115) : CT E 2 mX9_putTo [rf E 29 0 0, .int (iI (l : Int)), .int (iI (d : Int)), .long (lI a), .int (iI y)] (hp E (wrM m S)) (some (.long (lI (ntR S l d a)))) (hp E (wrM m (ntS S l d a y))) := by
  refine CT.go okX9_putTo (Nat.le_of_ble_eq_true rfl) ?_
  show T E 2 mX9_putTo 0 [some (rf E 29 0 0), some (.int (iI (l : Int))), some (.int (iI (d : Int))), some (.long (lI a)), none, some (.int (iI y)), none, none, none, none, none, none, none, none, none] [] (hp E (wrM m S)) _
  have b39 : 0 ≤ S 39 d ∧ S 39 d ≤ 99990000 := hS 39 d rfl
  have b40 : 0 ≤ S 40 d ∧ S 40 d ≤ 4000000000 := hS 40 d rfl
  refine T.aload_n dX9_putTo_0 rfl ?_
  refine T.iload_n dX9_putTo_1 rfl ?_
  refine T.bipush dX9_putTo_2 ?_
  refine T.cV1 (As := [.int (iI (l : Int)), .int (iI 115)]) (st := []) dX9_putTo_4 lk_X9_141 (by have h0 := n_has E m S l 115 hS hl (by decide); rw [bZ_f hs] at h0; exact h0) ok29 rfl rfl (by decide) rfl rfl (Nat.le_of_ble_eq_true rfl) ?_
  refine T.istore (ls' := [some (rf E 29 0 0), some (.int (iI (l : Int))), some (.int (iI (d : Int))), some (.long (lI a)), none, some (.int (iI y)), some (.int (iI 0)), none, none, none, none, none, none, none, none]) dX9_putTo_7 rfl ?_
  refine T.lload_n dX9_putTo_9 rfl ?_
  refine T.lstore (ls' := [some (rf E 29 0 0), some (.int (iI (l : Int))), some (.int (iI (d : Int))), some (.long (lI a)), none, some (.int (iI y)), some (.int (iI 0)), some (.long (lI a)), none, none, none, none, none, none, none]) dX9_putTo_10 rfl ?_
  refine T.iconst dX9_putTo_12 ?_
  refine T.istore (ls' := [some (rf E 29 0 0), some (.int (iI (l : Int))), some (.int (iI (d : Int))), some (.long (lI a)), none, some (.int (iI y)), some (.int (iI 0)), some (.long (lI a)), none, some (.int (iI 0)), none, none, none, none, none]) dX9_putTo_13 rfl ?_
  refine T.iload dX9_putTo_15 rfl ?_
  refine T.iconst dX9_putTo_17 ?_
  refine T.icmp_ge 147 dX9_putTo_18 (by unfold rg; omega) (by unfold rg; omega) (fun c1 => ?_) (fun c1 => ?_)
  · exact absurd c1 (by omega)
  · refine T.iload dX9_putTo_21 rfl ?_
    refine T.iload dX9_putTo_23 rfl ?_
    refine T.if_ne 32 dX9_putTo_25 (by unfold rg; omega) (fun c2 => ?_) (fun c2 => ?_)
    · exact absurd c2 (by omega)
    · refine T.iconst dX9_putTo_28 ?_
      refine T.goto 33 dX9_putTo_29 ?_
      refine T.icmp_ne 40 dX9_putTo_33 (by unfold rg; omega) (by unfold rg; omega) (fun c3 => ?_) (fun c3 => ?_)
      · refine T.iconst dX9_putTo_40 ?_
        refine T.istore (ls' := [some (rf E 29 0 0), some (.int (iI (l : Int))), some (.int (iI (d : Int))), some (.long (lI a)), none, some (.int (iI y)), some (.int (iI 0)), some (.long (lI a)), none, some (.int (iI 0)), some (.int (iI 0)), none, none, none, none]) dX9_putTo_41 rfl ?_
        refine T.iload dX9_putTo_43 rfl ?_
        refine T.if_eq 57 dX9_putTo_45 (by unfold rg; omega) (fun c4 => ?_) (fun c4 => ?_)
        · refine T.aload_n dX9_putTo_57 rfl ?_
          refine T.mget (v := rf E 40 0 0) dX9_putTo_58 fo_X9_32 ok29 rfl rfl ?_
          refine T.iload_n dX9_putTo_61 rfl ?_
          refine T.aL (z := S 40 d) (x := d) dX9_putTo_62 ok40 (fun _ => rfl) rfl (by omega) (wrM_c rfl) ?_
          have q5 : 0 ≤ S 40 d ∧ S 40 d ≤ 4000000000 := hS 40 d rfl
          refine T.lstore (ls' := [some (rf E 29 0 0), some (.int (iI (l : Int))), some (.int (iI (d : Int))), some (.long (lI a)), none, some (.int (iI y)), some (.int (iI 0)), some (.long (lI a)), none, some (.int (iI 0)), some (.int (iI 0)), some (.long (lI (S 40 d))), none, none, none]) dX9_putTo_63 rfl ?_
          refine T.lload dX9_putTo_65 rfl ?_
          refine T.lload dX9_putTo_67 rfl ?_
          refine T.lcmp_ge 78 dX9_putTo_69 dX9_putTo_70 (by unfold rl; omega) (by unfold rl; omega) (fun c6 => ?_) (fun c6 => ?_)
          · refine T.lload dX9_putTo_78 rfl ?_
            refine T.topl (z := min a (S 40 d)) (congrArg lI (by omega)) ?_
            refine T.lstore (ls' := [some (rf E 29 0 0), some (.int (iI (l : Int))), some (.int (iI (d : Int))), some (.long (lI a)), none, some (.int (iI y)), some (.int (iI 0)), some (.long (lI a)), none, some (.int (iI 0)), some (.int (iI 0)), some (.long (lI (S 40 d))), none, some (.long (lI (min a (S 40 d)))), none]) dX9_putTo_80 rfl ?_
            refine T.iload dX9_putTo_82 rfl ?_
            refine T.if_eq 112 dX9_putTo_84 (by unfold rg; omega) (fun c7 => ?_) (fun c7 => ?_)
            · refine T.aload_n dX9_putTo_112 rfl ?_
              refine T.mget (v := rf E 40 0 0) dX9_putTo_113 fo_X9_32 ok29 rfl rfl ?_
              refine T.iload_n dX9_putTo_116 rfl ?_
              refine T.dup2 dX9_putTo_117 ?_
              refine T.aL (z := S 40 d) (x := d) dX9_putTo_118 ok40 (fun _ => rfl) rfl (by omega) (wrM_c rfl) ?_
              refine T.lload dX9_putTo_119 rfl ?_
              refine T.lsub dX9_putTo_121 ?_
              refine T.nlst (x := d) dX9_putTo_122 rfl ok40 (fun _ => rfl) rfl (by omega) ?_
              refine T.aload_n dX9_putTo_123 rfl ?_
              refine T.mget (v := rf E 44 0 0) dX9_putTo_124 fo_X9_44 ok29 rfl rfl ?_
              refine T.iload_n dX9_putTo_127 rfl ?_
              refine T.dup2 dX9_putTo_128 ?_
              refine T.aL (z := S 44 d) (x := d) dX9_putTo_129 ok44 (fun _ => rfl) rfl (by omega) ((wrM_c rfl).trans (by simp [upT])) ?_
              refine T.lload dX9_putTo_130 rfl ?_
              refine T.ladd dX9_putTo_132 ?_
              refine T.nlst (x := d) dX9_putTo_133 rfl ok44 (fun _ => rfl) rfl (by omega) ?_
              refine T.lload dX9_putTo_134 rfl ?_
              refine T.lload dX9_putTo_136 rfl ?_
              refine T.lsub dX9_putTo_138 ?_
              refine T.lstore (ls' := [some (rf E 29 0 0), some (.int (iI (l : Int))), some (.int (iI (d : Int))), some (.long (lI a)), none, some (.int (iI y)), some (.int (iI 0)), some (.long (lI (a - (min a (S 40 d))))), none, some (.int (iI 0)), some (.int (iI 0)), some (.long (lI (S 40 d))), none, some (.long (lI (min a (S 40 d)))), none]) dX9_putTo_139 rfl ?_
              refine T.iinc (ls' := [some (rf E 29 0 0), some (.int (iI (l : Int))), some (.int (iI (d : Int))), some (.long (lI a)), none, some (.int (iI y)), some (.int (iI 0)), some (.long (lI (a - (min a (S 40 d))))), none, some (.int (iI (0 + 1))), some (.int (iI 0)), some (.long (lI (S 40 d))), none, some (.long (lI (min a (S 40 d)))), none]) dX9_putTo_141 rfl rfl ?_
              refine T.goto 15 dX9_putTo_144 ?_
              refine T.iload dX9_putTo_15 rfl ?_
              refine T.iconst dX9_putTo_17 ?_
              refine T.icmp_ge 147 dX9_putTo_18 (by unfold rg; omega) (by unfold rg; omega) (fun c8 => ?_) (fun c8 => ?_)
              · exact absurd c8 (by omega)
              · refine T.iload dX9_putTo_21 rfl ?_
                refine T.iload dX9_putTo_23 rfl ?_
                refine T.if_ne 32 dX9_putTo_25 (by unfold rg; omega) (fun c9 => ?_) (fun c9 => ?_)
                · refine T.iconst dX9_putTo_32 ?_
                  refine T.icmp_ne 40 dX9_putTo_33 (by unfold rg; omega) (by unfold rg; omega) (fun c10 => ?_) (fun c10 => ?_)
                  · exact absurd c10 (by omega)
                  · refine T.iconst dX9_putTo_36 ?_
                    refine T.goto 41 dX9_putTo_37 ?_
                    refine T.istore (ls' := [some (rf E 29 0 0), some (.int (iI (l : Int))), some (.int (iI (d : Int))), some (.long (lI a)), none, some (.int (iI y)), some (.int (iI 0)), some (.long (lI (a - (min a (S 40 d))))), none, some (.int (iI (0 + 1))), some (.int (iI 1)), some (.long (lI (S 40 d))), none, some (.long (lI (min a (S 40 d)))), none]) dX9_putTo_41 rfl ?_
                    refine T.iload dX9_putTo_43 rfl ?_
                    refine T.if_eq 57 dX9_putTo_45 (by unfold rg; omega) (fun c11 => ?_) (fun c11 => ?_)
                    · exact absurd c11 (by omega)
                    · refine T.aload_n dX9_putTo_48 rfl ?_
                      refine T.mget (v := rf E 39 0 0) dX9_putTo_49 fo_X9_28 ok29 rfl rfl ?_
                      refine T.iload_n dX9_putTo_52 rfl ?_
                      refine T.aL (z := S 39 d) (x := d) dX9_putTo_53 ok39 (fun _ => rfl) rfl (by omega) ((wrM_c rfl).trans (by simp [upT])) ?_
                      have q12 : 0 ≤ S 39 d ∧ S 39 d ≤ 99990000 := hS 39 d rfl
                      refine T.goto 63 dX9_putTo_54 ?_
                      refine T.lstore (ls' := [some (rf E 29 0 0), some (.int (iI (l : Int))), some (.int (iI (d : Int))), some (.long (lI a)), none, some (.int (iI y)), some (.int (iI 0)), some (.long (lI (a - (min a (S 40 d))))), none, some (.int (iI (0 + 1))), some (.int (iI 1)), some (.long (lI (S 39 d))), none, some (.long (lI (min a (S 40 d)))), none]) dX9_putTo_63 rfl ?_
                      refine T.lload dX9_putTo_65 rfl ?_
                      refine T.lload dX9_putTo_67 rfl ?_
                      refine T.lcmp_ge 78 dX9_putTo_69 dX9_putTo_70 (by unfold rl; omega) (by unfold rl; omega) (fun c13 => ?_) (fun c13 => ?_)
                      · refine T.lload dX9_putTo_78 rfl ?_
                        refine T.topl (z := min (a - (min a (S 40 d))) (S 39 d)) (congrArg lI (by omega)) ?_
                        refine T.lstore (ls' := [some (rf E 29 0 0), some (.int (iI (l : Int))), some (.int (iI (d : Int))), some (.long (lI a)), none, some (.int (iI y)), some (.int (iI 0)), some (.long (lI (a - (min a (S 40 d))))), none, some (.int (iI (0 + 1))), some (.int (iI 1)), some (.long (lI (S 39 d))), none, some (.long (lI (min (a - (min a (S 40 d))) (S 39 d)))), none]) dX9_putTo_80 rfl ?_
                        refine T.iload dX9_putTo_82 rfl ?_
                        refine T.if_eq 112 dX9_putTo_84 (by unfold rg; omega) (fun c14 => ?_) (fun c14 => ?_)
                        · exact absurd c14 (by omega)
                        · refine T.aload_n dX9_putTo_87 rfl ?_
                          refine T.mget (v := rf E 39 0 0) dX9_putTo_88 fo_X9_28 ok29 rfl rfl ?_
                          refine T.iload_n dX9_putTo_91 rfl ?_
                          refine T.dup2 dX9_putTo_92 ?_
                          refine T.aL (z := S 39 d) (x := d) dX9_putTo_93 ok39 (fun _ => rfl) rfl (by omega) ((wrM_c rfl).trans (by simp [upT])) ?_
                          refine T.lload dX9_putTo_94 rfl ?_
                          refine T.lsub dX9_putTo_96 ?_
                          refine T.nlst (x := d) dX9_putTo_97 rfl ok39 (fun _ => rfl) rfl (by omega) ?_
                          refine T.aload_n dX9_putTo_98 rfl ?_
                          refine T.mget (v := rf E 43 0 0) dX9_putTo_99 fo_X9_41 ok29 rfl rfl ?_
                          refine T.iload_n dX9_putTo_102 rfl ?_
                          refine T.dup2 dX9_putTo_103 ?_
                          refine T.aL (z := S 43 d) (x := d) dX9_putTo_104 ok43 (fun _ => rfl) rfl (by omega) ((wrM_c rfl).trans (by simp [upT])) ?_
                          refine T.lload dX9_putTo_105 rfl ?_
                          refine T.ladd dX9_putTo_107 ?_
                          refine T.nlst (x := d) dX9_putTo_108 rfl ok43 (fun _ => rfl) rfl (by omega) ?_
                          refine T.goto 134 dX9_putTo_109 ?_
                          refine T.lload dX9_putTo_134 rfl ?_
                          refine T.lload dX9_putTo_136 rfl ?_
                          refine T.lsub dX9_putTo_138 ?_
                          refine T.lstore (ls' := [some (rf E 29 0 0), some (.int (iI (l : Int))), some (.int (iI (d : Int))), some (.long (lI a)), none, some (.int (iI y)), some (.int (iI 0)), some (.long (lI ((a - (min a (S 40 d))) - (min (a - (min a (S 40 d))) (S 39 d))))), none, some (.int (iI (0 + 1))), some (.int (iI 1)), some (.long (lI (S 39 d))), none, some (.long (lI (min (a - (min a (S 40 d))) (S 39 d)))), none]) dX9_putTo_139 rfl ?_
                          refine T.iinc (ls' := [some (rf E 29 0 0), some (.int (iI (l : Int))), some (.int (iI (d : Int))), some (.long (lI a)), none, some (.int (iI y)), some (.int (iI 0)), some (.long (lI ((a - (min a (S 40 d))) - (min (a - (min a (S 40 d))) (S 39 d))))), none, some (.int (iI (0 + 1 + 1))), some (.int (iI 1)), some (.long (lI (S 39 d))), none, some (.long (lI (min (a - (min a (S 40 d))) (S 39 d)))), none]) dX9_putTo_141 rfl rfl ?_
                          refine T.goto 15 dX9_putTo_144 ?_
                          refine T.iload dX9_putTo_15 rfl ?_
                          refine T.iconst dX9_putTo_17 ?_
                          refine T.icmp_ge 147 dX9_putTo_18 (by unfold rg; omega) (by unfold rg; omega) (fun c15 => ?_) (fun c15 => ?_)
                          · refine T.lload_n dX9_putTo_147 rfl ?_
                            refine T.lload dX9_putTo_148 rfl ?_
                            refine T.lsub dX9_putTo_150 ?_
                            refine T.lstore (ls' := [some (rf E 29 0 0), some (.int (iI (l : Int))), some (.int (iI (d : Int))), some (.long (lI a)), none, some (.int (iI y)), some (.int (iI 0)), some (.long (lI ((a - (min a (S 40 d))) - (min (a - (min a (S 40 d))) (S 39 d))))), none, some (.long (lI (a - ((a - (min a (S 40 d))) - (min (a - (min a (S 40 d))) (S 39 d)))))), none, some (.long (lI (S 39 d))), none, some (.long (lI (min (a - (min a (S 40 d))) (S 39 d)))), none]) dX9_putTo_151 rfl ?_
                            have hp1 : nts S l d a = min (a - min a (S 40 d)) (S 39 d) := if_neg hs
                            have hp2 : ntr S l d a = min a (S 40 d) := if_neg hs
                            have hp3 : ntR S l d a = a - ((a - (min a (S 40 d))) - (min (a - (min a (S 40 d))) (S 39 d))) := by unfold ntR; rw [hp1, hp2]; omega
                            refine T.lload dX9_putTo_153 rfl ?_
                            refine T.lconst0 dX9_putTo_155 ?_
                            refine T.lcmp_le 203 dX9_putTo_156 dX9_putTo_157 (by unfold rl; omega) (by unfold rl; omega) (fun c16 => ?_) (fun c16 => ?_)
                            · refine T.lload dX9_putTo_203 rfl ?_
                              exact T.lret dX9_putTo_205 ⟨by rw [hp3], congrArg (fun z => hp E (wrM m z)) (Eq.symm (show ntS S l d a y = (upT (upT (upT (upT S 40 d ((S 40 d) - (min a (S 40 d)))) 44 d ((S 44 d) + (min a (S 40 d)))) 39 d ((S 39 d) - (min (a - (min a (S 40 d))) (S 39 d)))) 43 d ((S 43 d) + (min (a - (min a (S 40 d))) (S 39 d)))) from by unfold ntS; rw [if_neg (by omega), hp1, hp2, ← ntB_A]; rfl))⟩
                            · refine T.aload_n dX9_putTo_160 rfl ?_
                              refine T.mget (v := rf E 42 0 0) dX9_putTo_161 fo_X9_38 ok29 rfl rfl ?_
                              refine T.iload_n dX9_putTo_164 rfl ?_
                              refine T.aload_n dX9_putTo_165 rfl ?_
                              refine T.mget (v := rf E 46 0 0) dX9_putTo_166 fo_X9_47 ok29 rfl rfl ?_
                              refine T.iload_n dX9_putTo_169 rfl ?_
                              refine T.aZ (z := S 46 d) (x := d) dX9_putTo_170 ok46 (fun _ => rfl) rfl (by omega) ((wrM_c rfl).trans (by simp [upT])) ?_
                              have q17 : 0 ≤ S 46 d ∧ S 46 d ≤ 1 := hS 46 d rfl
                              refine T.if_eq 188 dX9_putTo_171 (by unfold rg; omega) (fun c18 => ?_) (fun c18 => ?_)
                              · refine T.aload_n dX9_putTo_188 rfl ?_
                                refine T.mget (v := rf E 42 0 0) dX9_putTo_189 fo_X9_38 ok29 rfl rfl ?_
                                refine T.iload_n dX9_putTo_192 rfl ?_
                                refine T.aI (z := S 42 d) (x := d) dX9_putTo_193 ok42 (fun _ => rfl) rfl (by omega) ((wrM_c rfl).trans (by simp [upT])) ?_
                                have q19 : -4 ≤ S 42 d ∧ S 42 d ≤ 299 := hS 42 d rfl
                                refine T.nist (x := d) dX9_putTo_194 rfl ok42 (fun _ => rfl) rfl (by omega) ?_
                                refine T.aload_n dX9_putTo_195 rfl ?_
                                refine T.mget (v := rf E 41 0 0) dX9_putTo_196 fo_X9_35 ok29 rfl rfl ?_
                                refine T.iload_n dX9_putTo_199 rfl ?_
                                refine T.iload dX9_putTo_200 rfl ?_
                                refine T.nist (x := d) dX9_putTo_202 rfl ok41 (fun _ => rfl) rfl (by omega) ?_
                                refine T.lload dX9_putTo_203 rfl ?_
                                have hW : (if S 46 d ≠ 0 ∧ S 42 d < 0 then y else S 42 d) = S 42 d := by split <;> omega
                                exact T.lret dX9_putTo_205 ⟨by rw [hp3], congrArg (fun z => hp E (wrM m z)) (Eq.symm (show ntS S l d a y = (upT (upT (upT (upT (upT (upT S 40 d ((S 40 d) - (min a (S 40 d)))) 44 d ((S 44 d) + (min a (S 40 d)))) 39 d ((S 39 d) - (min (a - (min a (S 40 d))) (S 39 d)))) 43 d ((S 43 d) + (min (a - (min a (S 40 d))) (S 39 d)))) 42 d (S 42 d)) 41 d y) from by unfold ntS; rw [if_pos (by omega), hp1, hp2, ← ntB_A]; unfold ntW; rw [hW]; rfl))⟩
                              · refine T.aload_n dX9_putTo_174 rfl ?_
                                refine T.mget (v := rf E 42 0 0) dX9_putTo_175 fo_X9_38 ok29 rfl rfl ?_
                                refine T.iload_n dX9_putTo_178 rfl ?_
                                refine T.aI (z := S 42 d) (x := d) dX9_putTo_179 ok42 (fun _ => rfl) rfl (by omega) ((wrM_c rfl).trans (by simp [upT])) ?_
                                have q20 : -4 ≤ S 42 d ∧ S 42 d ≤ 299 := hS 42 d rfl
                                refine T.if_ge 188 dX9_putTo_180 (by unfold rg; omega) (fun c21 => ?_) (fun c21 => ?_)
                                · refine T.aload_n dX9_putTo_188 rfl ?_
                                  refine T.mget (v := rf E 42 0 0) dX9_putTo_189 fo_X9_38 ok29 rfl rfl ?_
                                  refine T.iload_n dX9_putTo_192 rfl ?_
                                  refine T.aI (z := S 42 d) (x := d) dX9_putTo_193 ok42 (fun _ => rfl) rfl (by omega) ((wrM_c rfl).trans (by simp [upT])) ?_
                                  refine T.nist (x := d) dX9_putTo_194 rfl ok42 (fun _ => rfl) rfl (by omega) ?_
                                  refine T.aload_n dX9_putTo_195 rfl ?_
                                  refine T.mget (v := rf E 41 0 0) dX9_putTo_196 fo_X9_35 ok29 rfl rfl ?_
                                  refine T.iload_n dX9_putTo_199 rfl ?_
                                  refine T.iload dX9_putTo_200 rfl ?_
                                  refine T.nist (x := d) dX9_putTo_202 rfl ok41 (fun _ => rfl) rfl (by omega) ?_
                                  refine T.lload dX9_putTo_203 rfl ?_
                                  have hW : (if S 46 d ≠ 0 ∧ S 42 d < 0 then y else S 42 d) = S 42 d := by split <;> omega
                                  exact T.lret dX9_putTo_205 ⟨by rw [hp3], congrArg (fun z => hp E (wrM m z)) (Eq.symm (show ntS S l d a y = (upT (upT (upT (upT (upT (upT S 40 d ((S 40 d) - (min a (S 40 d)))) 44 d ((S 44 d) + (min a (S 40 d)))) 39 d ((S 39 d) - (min (a - (min a (S 40 d))) (S 39 d)))) 43 d ((S 43 d) + (min (a - (min a (S 40 d))) (S 39 d)))) 42 d (S 42 d)) 41 d y) from by unfold ntS; rw [if_pos (by omega), hp1, hp2, ← ntB_A]; unfold ntW; rw [hW]; rfl))⟩
                                · refine T.iload dX9_putTo_183 rfl ?_
                                  refine T.goto 194 dX9_putTo_185 ?_
                                  refine T.nist (x := d) dX9_putTo_194 rfl ok42 (fun _ => rfl) rfl (by omega) ?_
                                  refine T.aload_n dX9_putTo_195 rfl ?_
                                  refine T.mget (v := rf E 41 0 0) dX9_putTo_196 fo_X9_35 ok29 rfl rfl ?_
                                  refine T.iload_n dX9_putTo_199 rfl ?_
                                  refine T.iload dX9_putTo_200 rfl ?_
                                  refine T.nist (x := d) dX9_putTo_202 rfl ok41 (fun _ => rfl) rfl (by omega) ?_
                                  refine T.lload dX9_putTo_203 rfl ?_
                                  have hW : (if S 46 d ≠ 0 ∧ S 42 d < 0 then y else S 42 d) = y := by split <;> omega
                                  exact T.lret dX9_putTo_205 ⟨by rw [hp3], congrArg (fun z => hp E (wrM m z)) (Eq.symm (show ntS S l d a y = (upT (upT (upT (upT (upT (upT S 40 d ((S 40 d) - (min a (S 40 d)))) 44 d ((S 44 d) + (min a (S 40 d)))) 39 d ((S 39 d) - (min (a - (min a (S 40 d))) (S 39 d)))) 43 d ((S 43 d) + (min (a - (min a (S 40 d))) (S 39 d)))) 42 d y) 41 d y) from by unfold ntS; rw [if_pos (by omega), hp1, hp2, ← ntB_A]; unfold ntW; rw [hW]; rfl))⟩
                          · exact absurd c15 (by omega)
                      · refine T.lload dX9_putTo_73 rfl ?_
                        refine T.goto 80 dX9_putTo_75 ?_
                        refine T.topl (z := min (a - (min a (S 40 d))) (S 39 d)) (congrArg lI (by omega)) ?_
                        refine T.lstore (ls' := [some (rf E 29 0 0), some (.int (iI (l : Int))), some (.int (iI (d : Int))), some (.long (lI a)), none, some (.int (iI y)), some (.int (iI 0)), some (.long (lI (a - (min a (S 40 d))))), none, some (.int (iI (0 + 1))), some (.int (iI 1)), some (.long (lI (S 39 d))), none, some (.long (lI (min (a - (min a (S 40 d))) (S 39 d)))), none]) dX9_putTo_80 rfl ?_
                        refine T.iload dX9_putTo_82 rfl ?_
                        refine T.if_eq 112 dX9_putTo_84 (by unfold rg; omega) (fun c22 => ?_) (fun c22 => ?_)
                        · exact absurd c22 (by omega)
                        · refine T.aload_n dX9_putTo_87 rfl ?_
                          refine T.mget (v := rf E 39 0 0) dX9_putTo_88 fo_X9_28 ok29 rfl rfl ?_
                          refine T.iload_n dX9_putTo_91 rfl ?_
                          refine T.dup2 dX9_putTo_92 ?_
                          refine T.aL (z := S 39 d) (x := d) dX9_putTo_93 ok39 (fun _ => rfl) rfl (by omega) ((wrM_c rfl).trans (by simp [upT])) ?_
                          refine T.lload dX9_putTo_94 rfl ?_
                          refine T.lsub dX9_putTo_96 ?_
                          refine T.nlst (x := d) dX9_putTo_97 rfl ok39 (fun _ => rfl) rfl (by omega) ?_
                          refine T.aload_n dX9_putTo_98 rfl ?_
                          refine T.mget (v := rf E 43 0 0) dX9_putTo_99 fo_X9_41 ok29 rfl rfl ?_
                          refine T.iload_n dX9_putTo_102 rfl ?_
                          refine T.dup2 dX9_putTo_103 ?_
                          refine T.aL (z := S 43 d) (x := d) dX9_putTo_104 ok43 (fun _ => rfl) rfl (by omega) ((wrM_c rfl).trans (by simp [upT])) ?_
                          refine T.lload dX9_putTo_105 rfl ?_
                          refine T.ladd dX9_putTo_107 ?_
                          refine T.nlst (x := d) dX9_putTo_108 rfl ok43 (fun _ => rfl) rfl (by omega) ?_
                          refine T.goto 134 dX9_putTo_109 ?_
                          refine T.lload dX9_putTo_134 rfl ?_
                          refine T.lload dX9_putTo_136 rfl ?_
                          refine T.lsub dX9_putTo_138 ?_
                          refine T.lstore (ls' := [some (rf E 29 0 0), some (.int (iI (l : Int))), some (.int (iI (d : Int))), some (.long (lI a)), none, some (.int (iI y)), some (.int (iI 0)), some (.long (lI ((a - (min a (S 40 d))) - (min (a - (min a (S 40 d))) (S 39 d))))), none, some (.int (iI (0 + 1))), some (.int (iI 1)), some (.long (lI (S 39 d))), none, some (.long (lI (min (a - (min a (S 40 d))) (S 39 d)))), none]) dX9_putTo_139 rfl ?_
                          refine T.iinc (ls' := [some (rf E 29 0 0), some (.int (iI (l : Int))), some (.int (iI (d : Int))), some (.long (lI a)), none, some (.int (iI y)), some (.int (iI 0)), some (.long (lI ((a - (min a (S 40 d))) - (min (a - (min a (S 40 d))) (S 39 d))))), none, some (.int (iI (0 + 1 + 1))), some (.int (iI 1)), some (.long (lI (S 39 d))), none, some (.long (lI (min (a - (min a (S 40 d))) (S 39 d)))), none]) dX9_putTo_141 rfl rfl ?_
                          refine T.goto 15 dX9_putTo_144 ?_
                          refine T.iload dX9_putTo_15 rfl ?_
                          refine T.iconst dX9_putTo_17 ?_
                          refine T.icmp_ge 147 dX9_putTo_18 (by unfold rg; omega) (by unfold rg; omega) (fun c23 => ?_) (fun c23 => ?_)
                          · refine T.lload_n dX9_putTo_147 rfl ?_
                            refine T.lload dX9_putTo_148 rfl ?_
                            refine T.lsub dX9_putTo_150 ?_
                            refine T.lstore (ls' := [some (rf E 29 0 0), some (.int (iI (l : Int))), some (.int (iI (d : Int))), some (.long (lI a)), none, some (.int (iI y)), some (.int (iI 0)), some (.long (lI ((a - (min a (S 40 d))) - (min (a - (min a (S 40 d))) (S 39 d))))), none, some (.long (lI (a - ((a - (min a (S 40 d))) - (min (a - (min a (S 40 d))) (S 39 d)))))), none, some (.long (lI (S 39 d))), none, some (.long (lI (min (a - (min a (S 40 d))) (S 39 d)))), none]) dX9_putTo_151 rfl ?_
                            have hp1 : nts S l d a = min (a - min a (S 40 d)) (S 39 d) := if_neg hs
                            have hp2 : ntr S l d a = min a (S 40 d) := if_neg hs
                            have hp3 : ntR S l d a = a - ((a - (min a (S 40 d))) - (min (a - (min a (S 40 d))) (S 39 d))) := by unfold ntR; rw [hp1, hp2]; omega
                            refine T.lload dX9_putTo_153 rfl ?_
                            refine T.lconst0 dX9_putTo_155 ?_
                            refine T.lcmp_le 203 dX9_putTo_156 dX9_putTo_157 (by unfold rl; omega) (by unfold rl; omega) (fun c24 => ?_) (fun c24 => ?_)
                            · refine T.lload dX9_putTo_203 rfl ?_
                              exact T.lret dX9_putTo_205 ⟨by rw [hp3], congrArg (fun z => hp E (wrM m z)) (Eq.symm (show ntS S l d a y = (upT (upT (upT (upT S 40 d ((S 40 d) - (min a (S 40 d)))) 44 d ((S 44 d) + (min a (S 40 d)))) 39 d ((S 39 d) - (min (a - (min a (S 40 d))) (S 39 d)))) 43 d ((S 43 d) + (min (a - (min a (S 40 d))) (S 39 d)))) from by unfold ntS; rw [if_neg (by omega), hp1, hp2, ← ntB_A]; rfl))⟩
                            · refine T.aload_n dX9_putTo_160 rfl ?_
                              refine T.mget (v := rf E 42 0 0) dX9_putTo_161 fo_X9_38 ok29 rfl rfl ?_
                              refine T.iload_n dX9_putTo_164 rfl ?_
                              refine T.aload_n dX9_putTo_165 rfl ?_
                              refine T.mget (v := rf E 46 0 0) dX9_putTo_166 fo_X9_47 ok29 rfl rfl ?_
                              refine T.iload_n dX9_putTo_169 rfl ?_
                              refine T.aZ (z := S 46 d) (x := d) dX9_putTo_170 ok46 (fun _ => rfl) rfl (by omega) ((wrM_c rfl).trans (by simp [upT])) ?_
                              have q25 : 0 ≤ S 46 d ∧ S 46 d ≤ 1 := hS 46 d rfl
                              refine T.if_eq 188 dX9_putTo_171 (by unfold rg; omega) (fun c26 => ?_) (fun c26 => ?_)
                              · refine T.aload_n dX9_putTo_188 rfl ?_
                                refine T.mget (v := rf E 42 0 0) dX9_putTo_189 fo_X9_38 ok29 rfl rfl ?_
                                refine T.iload_n dX9_putTo_192 rfl ?_
                                refine T.aI (z := S 42 d) (x := d) dX9_putTo_193 ok42 (fun _ => rfl) rfl (by omega) ((wrM_c rfl).trans (by simp [upT])) ?_
                                have q27 : -4 ≤ S 42 d ∧ S 42 d ≤ 299 := hS 42 d rfl
                                refine T.nist (x := d) dX9_putTo_194 rfl ok42 (fun _ => rfl) rfl (by omega) ?_
                                refine T.aload_n dX9_putTo_195 rfl ?_
                                refine T.mget (v := rf E 41 0 0) dX9_putTo_196 fo_X9_35 ok29 rfl rfl ?_
                                refine T.iload_n dX9_putTo_199 rfl ?_
                                refine T.iload dX9_putTo_200 rfl ?_
                                refine T.nist (x := d) dX9_putTo_202 rfl ok41 (fun _ => rfl) rfl (by omega) ?_
                                refine T.lload dX9_putTo_203 rfl ?_
                                have hW : (if S 46 d ≠ 0 ∧ S 42 d < 0 then y else S 42 d) = S 42 d := by split <;> omega
                                exact T.lret dX9_putTo_205 ⟨by rw [hp3], congrArg (fun z => hp E (wrM m z)) (Eq.symm (show ntS S l d a y = (upT (upT (upT (upT (upT (upT S 40 d ((S 40 d) - (min a (S 40 d)))) 44 d ((S 44 d) + (min a (S 40 d)))) 39 d ((S 39 d) - (min (a - (min a (S 40 d))) (S 39 d)))) 43 d ((S 43 d) + (min (a - (min a (S 40 d))) (S 39 d)))) 42 d (S 42 d)) 41 d y) from by unfold ntS; rw [if_pos (by omega), hp1, hp2, ← ntB_A]; unfold ntW; rw [hW]; rfl))⟩
                              · refine T.aload_n dX9_putTo_174 rfl ?_
                                refine T.mget (v := rf E 42 0 0) dX9_putTo_175 fo_X9_38 ok29 rfl rfl ?_
                                refine T.iload_n dX9_putTo_178 rfl ?_
                                refine T.aI (z := S 42 d) (x := d) dX9_putTo_179 ok42 (fun _ => rfl) rfl (by omega) ((wrM_c rfl).trans (by simp [upT])) ?_
                                have q28 : -4 ≤ S 42 d ∧ S 42 d ≤ 299 := hS 42 d rfl
                                refine T.if_ge 188 dX9_putTo_180 (by unfold rg; omega) (fun c29 => ?_) (fun c29 => ?_)
                                · refine T.aload_n dX9_putTo_188 rfl ?_
                                  refine T.mget (v := rf E 42 0 0) dX9_putTo_189 fo_X9_38 ok29 rfl rfl ?_
                                  refine T.iload_n dX9_putTo_192 rfl ?_
                                  refine T.aI (z := S 42 d) (x := d) dX9_putTo_193 ok42 (fun _ => rfl) rfl (by omega) ((wrM_c rfl).trans (by simp [upT])) ?_
                                  refine T.nist (x := d) dX9_putTo_194 rfl ok42 (fun _ => rfl) rfl (by omega) ?_
                                  refine T.aload_n dX9_putTo_195 rfl ?_
                                  refine T.mget (v := rf E 41 0 0) dX9_putTo_196 fo_X9_35 ok29 rfl rfl ?_
                                  refine T.iload_n dX9_putTo_199 rfl ?_
                                  refine T.iload dX9_putTo_200 rfl ?_
                                  refine T.nist (x := d) dX9_putTo_202 rfl ok41 (fun _ => rfl) rfl (by omega) ?_
                                  refine T.lload dX9_putTo_203 rfl ?_
                                  have hW : (if S 46 d ≠ 0 ∧ S 42 d < 0 then y else S 42 d) = S 42 d := by split <;> omega
                                  exact T.lret dX9_putTo_205 ⟨by rw [hp3], congrArg (fun z => hp E (wrM m z)) (Eq.symm (show ntS S l d a y = (upT (upT (upT (upT (upT (upT S 40 d ((S 40 d) - (min a (S 40 d)))) 44 d ((S 44 d) + (min a (S 40 d)))) 39 d ((S 39 d) - (min (a - (min a (S 40 d))) (S 39 d)))) 43 d ((S 43 d) + (min (a - (min a (S 40 d))) (S 39 d)))) 42 d (S 42 d)) 41 d y) from by unfold ntS; rw [if_pos (by omega), hp1, hp2, ← ntB_A]; unfold ntW; rw [hW]; rfl))⟩
                                · refine T.iload dX9_putTo_183 rfl ?_
                                  refine T.goto 194 dX9_putTo_185 ?_
                                  refine T.nist (x := d) dX9_putTo_194 rfl ok42 (fun _ => rfl) rfl (by omega) ?_
                                  refine T.aload_n dX9_putTo_195 rfl ?_
                                  refine T.mget (v := rf E 41 0 0) dX9_putTo_196 fo_X9_35 ok29 rfl rfl ?_
                                  refine T.iload_n dX9_putTo_199 rfl ?_
                                  refine T.iload dX9_putTo_200 rfl ?_
                                  refine T.nist (x := d) dX9_putTo_202 rfl ok41 (fun _ => rfl) rfl (by omega) ?_
                                  refine T.lload dX9_putTo_203 rfl ?_
                                  have hW : (if S 46 d ≠ 0 ∧ S 42 d < 0 then y else S 42 d) = y := by split <;> omega
                                  exact T.lret dX9_putTo_205 ⟨by rw [hp3], congrArg (fun z => hp E (wrM m z)) (Eq.symm (show ntS S l d a y = (upT (upT (upT (upT (upT (upT S 40 d ((S 40 d) - (min a (S 40 d)))) 44 d ((S 44 d) + (min a (S 40 d)))) 39 d ((S 39 d) - (min (a - (min a (S 40 d))) (S 39 d)))) 43 d ((S 43 d) + (min (a - (min a (S 40 d))) (S 39 d)))) 42 d y) 41 d y) from by unfold ntS; rw [if_pos (by omega), hp1, hp2, ← ntB_A]; unfold ntW; rw [hW]; rfl))⟩
                          · exact absurd c23 (by omega)
                · exact absurd c9 (by omega)
            · exact absurd c7 (by omega)
          · refine T.lload dX9_putTo_73 rfl ?_
            refine T.goto 80 dX9_putTo_75 ?_
            refine T.topl (z := min a (S 40 d)) (congrArg lI (by omega)) ?_
            refine T.lstore (ls' := [some (rf E 29 0 0), some (.int (iI (l : Int))), some (.int (iI (d : Int))), some (.long (lI a)), none, some (.int (iI y)), some (.int (iI 0)), some (.long (lI a)), none, some (.int (iI 0)), some (.int (iI 0)), some (.long (lI (S 40 d))), none, some (.long (lI (min a (S 40 d)))), none]) dX9_putTo_80 rfl ?_
            refine T.iload dX9_putTo_82 rfl ?_
            refine T.if_eq 112 dX9_putTo_84 (by unfold rg; omega) (fun c30 => ?_) (fun c30 => ?_)
            · refine T.aload_n dX9_putTo_112 rfl ?_
              refine T.mget (v := rf E 40 0 0) dX9_putTo_113 fo_X9_32 ok29 rfl rfl ?_
              refine T.iload_n dX9_putTo_116 rfl ?_
              refine T.dup2 dX9_putTo_117 ?_
              refine T.aL (z := S 40 d) (x := d) dX9_putTo_118 ok40 (fun _ => rfl) rfl (by omega) (wrM_c rfl) ?_
              refine T.lload dX9_putTo_119 rfl ?_
              refine T.lsub dX9_putTo_121 ?_
              refine T.nlst (x := d) dX9_putTo_122 rfl ok40 (fun _ => rfl) rfl (by omega) ?_
              refine T.aload_n dX9_putTo_123 rfl ?_
              refine T.mget (v := rf E 44 0 0) dX9_putTo_124 fo_X9_44 ok29 rfl rfl ?_
              refine T.iload_n dX9_putTo_127 rfl ?_
              refine T.dup2 dX9_putTo_128 ?_
              refine T.aL (z := S 44 d) (x := d) dX9_putTo_129 ok44 (fun _ => rfl) rfl (by omega) ((wrM_c rfl).trans (by simp [upT])) ?_
              refine T.lload dX9_putTo_130 rfl ?_
              refine T.ladd dX9_putTo_132 ?_
              refine T.nlst (x := d) dX9_putTo_133 rfl ok44 (fun _ => rfl) rfl (by omega) ?_
              refine T.lload dX9_putTo_134 rfl ?_
              refine T.lload dX9_putTo_136 rfl ?_
              refine T.lsub dX9_putTo_138 ?_
              refine T.lstore (ls' := [some (rf E 29 0 0), some (.int (iI (l : Int))), some (.int (iI (d : Int))), some (.long (lI a)), none, some (.int (iI y)), some (.int (iI 0)), some (.long (lI (a - (min a (S 40 d))))), none, some (.int (iI 0)), some (.int (iI 0)), some (.long (lI (S 40 d))), none, some (.long (lI (min a (S 40 d)))), none]) dX9_putTo_139 rfl ?_
              refine T.iinc (ls' := [some (rf E 29 0 0), some (.int (iI (l : Int))), some (.int (iI (d : Int))), some (.long (lI a)), none, some (.int (iI y)), some (.int (iI 0)), some (.long (lI (a - (min a (S 40 d))))), none, some (.int (iI (0 + 1))), some (.int (iI 0)), some (.long (lI (S 40 d))), none, some (.long (lI (min a (S 40 d)))), none]) dX9_putTo_141 rfl rfl ?_
              refine T.goto 15 dX9_putTo_144 ?_
              refine T.iload dX9_putTo_15 rfl ?_
              refine T.iconst dX9_putTo_17 ?_
              refine T.icmp_ge 147 dX9_putTo_18 (by unfold rg; omega) (by unfold rg; omega) (fun c31 => ?_) (fun c31 => ?_)
              · exact absurd c31 (by omega)
              · refine T.iload dX9_putTo_21 rfl ?_
                refine T.iload dX9_putTo_23 rfl ?_
                refine T.if_ne 32 dX9_putTo_25 (by unfold rg; omega) (fun c32 => ?_) (fun c32 => ?_)
                · refine T.iconst dX9_putTo_32 ?_
                  refine T.icmp_ne 40 dX9_putTo_33 (by unfold rg; omega) (by unfold rg; omega) (fun c33 => ?_) (fun c33 => ?_)
                  · exact absurd c33 (by omega)
                  · refine T.iconst dX9_putTo_36 ?_
                    refine T.goto 41 dX9_putTo_37 ?_
                    refine T.istore (ls' := [some (rf E 29 0 0), some (.int (iI (l : Int))), some (.int (iI (d : Int))), some (.long (lI a)), none, some (.int (iI y)), some (.int (iI 0)), some (.long (lI (a - (min a (S 40 d))))), none, some (.int (iI (0 + 1))), some (.int (iI 1)), some (.long (lI (S 40 d))), none, some (.long (lI (min a (S 40 d)))), none]) dX9_putTo_41 rfl ?_
                    refine T.iload dX9_putTo_43 rfl ?_
                    refine T.if_eq 57 dX9_putTo_45 (by unfold rg; omega) (fun c34 => ?_) (fun c34 => ?_)
                    · exact absurd c34 (by omega)
                    · refine T.aload_n dX9_putTo_48 rfl ?_
                      refine T.mget (v := rf E 39 0 0) dX9_putTo_49 fo_X9_28 ok29 rfl rfl ?_
                      refine T.iload_n dX9_putTo_52 rfl ?_
                      refine T.aL (z := S 39 d) (x := d) dX9_putTo_53 ok39 (fun _ => rfl) rfl (by omega) ((wrM_c rfl).trans (by simp [upT])) ?_
                      have q35 : 0 ≤ S 39 d ∧ S 39 d ≤ 99990000 := hS 39 d rfl
                      refine T.goto 63 dX9_putTo_54 ?_
                      refine T.lstore (ls' := [some (rf E 29 0 0), some (.int (iI (l : Int))), some (.int (iI (d : Int))), some (.long (lI a)), none, some (.int (iI y)), some (.int (iI 0)), some (.long (lI (a - (min a (S 40 d))))), none, some (.int (iI (0 + 1))), some (.int (iI 1)), some (.long (lI (S 39 d))), none, some (.long (lI (min a (S 40 d)))), none]) dX9_putTo_63 rfl ?_
                      refine T.lload dX9_putTo_65 rfl ?_
                      refine T.lload dX9_putTo_67 rfl ?_
                      refine T.lcmp_ge 78 dX9_putTo_69 dX9_putTo_70 (by unfold rl; omega) (by unfold rl; omega) (fun c36 => ?_) (fun c36 => ?_)
                      · refine T.lload dX9_putTo_78 rfl ?_
                        refine T.topl (z := min (a - (min a (S 40 d))) (S 39 d)) (congrArg lI (by omega)) ?_
                        refine T.lstore (ls' := [some (rf E 29 0 0), some (.int (iI (l : Int))), some (.int (iI (d : Int))), some (.long (lI a)), none, some (.int (iI y)), some (.int (iI 0)), some (.long (lI (a - (min a (S 40 d))))), none, some (.int (iI (0 + 1))), some (.int (iI 1)), some (.long (lI (S 39 d))), none, some (.long (lI (min (a - (min a (S 40 d))) (S 39 d)))), none]) dX9_putTo_80 rfl ?_
                        refine T.iload dX9_putTo_82 rfl ?_
                        refine T.if_eq 112 dX9_putTo_84 (by unfold rg; omega) (fun c37 => ?_) (fun c37 => ?_)
                        · exact absurd c37 (by omega)
                        · refine T.aload_n dX9_putTo_87 rfl ?_
                          refine T.mget (v := rf E 39 0 0) dX9_putTo_88 fo_X9_28 ok29 rfl rfl ?_
                          refine T.iload_n dX9_putTo_91 rfl ?_
                          refine T.dup2 dX9_putTo_92 ?_
                          refine T.aL (z := S 39 d) (x := d) dX9_putTo_93 ok39 (fun _ => rfl) rfl (by omega) ((wrM_c rfl).trans (by simp [upT])) ?_
                          refine T.lload dX9_putTo_94 rfl ?_
                          refine T.lsub dX9_putTo_96 ?_
                          refine T.nlst (x := d) dX9_putTo_97 rfl ok39 (fun _ => rfl) rfl (by omega) ?_
                          refine T.aload_n dX9_putTo_98 rfl ?_
                          refine T.mget (v := rf E 43 0 0) dX9_putTo_99 fo_X9_41 ok29 rfl rfl ?_
                          refine T.iload_n dX9_putTo_102 rfl ?_
                          refine T.dup2 dX9_putTo_103 ?_
                          refine T.aL (z := S 43 d) (x := d) dX9_putTo_104 ok43 (fun _ => rfl) rfl (by omega) ((wrM_c rfl).trans (by simp [upT])) ?_
                          refine T.lload dX9_putTo_105 rfl ?_
                          refine T.ladd dX9_putTo_107 ?_
                          refine T.nlst (x := d) dX9_putTo_108 rfl ok43 (fun _ => rfl) rfl (by omega) ?_
                          refine T.goto 134 dX9_putTo_109 ?_
                          refine T.lload dX9_putTo_134 rfl ?_
                          refine T.lload dX9_putTo_136 rfl ?_
                          refine T.lsub dX9_putTo_138 ?_
                          refine T.lstore (ls' := [some (rf E 29 0 0), some (.int (iI (l : Int))), some (.int (iI (d : Int))), some (.long (lI a)), none, some (.int (iI y)), some (.int (iI 0)), some (.long (lI ((a - (min a (S 40 d))) - (min (a - (min a (S 40 d))) (S 39 d))))), none, some (.int (iI (0 + 1))), some (.int (iI 1)), some (.long (lI (S 39 d))), none, some (.long (lI (min (a - (min a (S 40 d))) (S 39 d)))), none]) dX9_putTo_139 rfl ?_
                          refine T.iinc (ls' := [some (rf E 29 0 0), some (.int (iI (l : Int))), some (.int (iI (d : Int))), some (.long (lI a)), none, some (.int (iI y)), some (.int (iI 0)), some (.long (lI ((a - (min a (S 40 d))) - (min (a - (min a (S 40 d))) (S 39 d))))), none, some (.int (iI (0 + 1 + 1))), some (.int (iI 1)), some (.long (lI (S 39 d))), none, some (.long (lI (min (a - (min a (S 40 d))) (S 39 d)))), none]) dX9_putTo_141 rfl rfl ?_
                          refine T.goto 15 dX9_putTo_144 ?_
                          refine T.iload dX9_putTo_15 rfl ?_
                          refine T.iconst dX9_putTo_17 ?_
                          refine T.icmp_ge 147 dX9_putTo_18 (by unfold rg; omega) (by unfold rg; omega) (fun c38 => ?_) (fun c38 => ?_)
                          · refine T.lload_n dX9_putTo_147 rfl ?_
                            refine T.lload dX9_putTo_148 rfl ?_
                            refine T.lsub dX9_putTo_150 ?_
                            refine T.lstore (ls' := [some (rf E 29 0 0), some (.int (iI (l : Int))), some (.int (iI (d : Int))), some (.long (lI a)), none, some (.int (iI y)), some (.int (iI 0)), some (.long (lI ((a - (min a (S 40 d))) - (min (a - (min a (S 40 d))) (S 39 d))))), none, some (.long (lI (a - ((a - (min a (S 40 d))) - (min (a - (min a (S 40 d))) (S 39 d)))))), none, some (.long (lI (S 39 d))), none, some (.long (lI (min (a - (min a (S 40 d))) (S 39 d)))), none]) dX9_putTo_151 rfl ?_
                            have hp1 : nts S l d a = min (a - min a (S 40 d)) (S 39 d) := if_neg hs
                            have hp2 : ntr S l d a = min a (S 40 d) := if_neg hs
                            have hp3 : ntR S l d a = a - ((a - (min a (S 40 d))) - (min (a - (min a (S 40 d))) (S 39 d))) := by unfold ntR; rw [hp1, hp2]; omega
                            refine T.lload dX9_putTo_153 rfl ?_
                            refine T.lconst0 dX9_putTo_155 ?_
                            refine T.lcmp_le 203 dX9_putTo_156 dX9_putTo_157 (by unfold rl; omega) (by unfold rl; omega) (fun c39 => ?_) (fun c39 => ?_)
                            · refine T.lload dX9_putTo_203 rfl ?_
                              exact T.lret dX9_putTo_205 ⟨by rw [hp3], congrArg (fun z => hp E (wrM m z)) (Eq.symm (show ntS S l d a y = (upT (upT (upT (upT S 40 d ((S 40 d) - (min a (S 40 d)))) 44 d ((S 44 d) + (min a (S 40 d)))) 39 d ((S 39 d) - (min (a - (min a (S 40 d))) (S 39 d)))) 43 d ((S 43 d) + (min (a - (min a (S 40 d))) (S 39 d)))) from by unfold ntS; rw [if_neg (by omega), hp1, hp2, ← ntB_A]; rfl))⟩
                            · refine T.aload_n dX9_putTo_160 rfl ?_
                              refine T.mget (v := rf E 42 0 0) dX9_putTo_161 fo_X9_38 ok29 rfl rfl ?_
                              refine T.iload_n dX9_putTo_164 rfl ?_
                              refine T.aload_n dX9_putTo_165 rfl ?_
                              refine T.mget (v := rf E 46 0 0) dX9_putTo_166 fo_X9_47 ok29 rfl rfl ?_
                              refine T.iload_n dX9_putTo_169 rfl ?_
                              refine T.aZ (z := S 46 d) (x := d) dX9_putTo_170 ok46 (fun _ => rfl) rfl (by omega) ((wrM_c rfl).trans (by simp [upT])) ?_
                              have q40 : 0 ≤ S 46 d ∧ S 46 d ≤ 1 := hS 46 d rfl
                              refine T.if_eq 188 dX9_putTo_171 (by unfold rg; omega) (fun c41 => ?_) (fun c41 => ?_)
                              · refine T.aload_n dX9_putTo_188 rfl ?_
                                refine T.mget (v := rf E 42 0 0) dX9_putTo_189 fo_X9_38 ok29 rfl rfl ?_
                                refine T.iload_n dX9_putTo_192 rfl ?_
                                refine T.aI (z := S 42 d) (x := d) dX9_putTo_193 ok42 (fun _ => rfl) rfl (by omega) ((wrM_c rfl).trans (by simp [upT])) ?_
                                have q42 : -4 ≤ S 42 d ∧ S 42 d ≤ 299 := hS 42 d rfl
                                refine T.nist (x := d) dX9_putTo_194 rfl ok42 (fun _ => rfl) rfl (by omega) ?_
                                refine T.aload_n dX9_putTo_195 rfl ?_
                                refine T.mget (v := rf E 41 0 0) dX9_putTo_196 fo_X9_35 ok29 rfl rfl ?_
                                refine T.iload_n dX9_putTo_199 rfl ?_
                                refine T.iload dX9_putTo_200 rfl ?_
                                refine T.nist (x := d) dX9_putTo_202 rfl ok41 (fun _ => rfl) rfl (by omega) ?_
                                refine T.lload dX9_putTo_203 rfl ?_
                                have hW : (if S 46 d ≠ 0 ∧ S 42 d < 0 then y else S 42 d) = S 42 d := by split <;> omega
                                exact T.lret dX9_putTo_205 ⟨by rw [hp3], congrArg (fun z => hp E (wrM m z)) (Eq.symm (show ntS S l d a y = (upT (upT (upT (upT (upT (upT S 40 d ((S 40 d) - (min a (S 40 d)))) 44 d ((S 44 d) + (min a (S 40 d)))) 39 d ((S 39 d) - (min (a - (min a (S 40 d))) (S 39 d)))) 43 d ((S 43 d) + (min (a - (min a (S 40 d))) (S 39 d)))) 42 d (S 42 d)) 41 d y) from by unfold ntS; rw [if_pos (by omega), hp1, hp2, ← ntB_A]; unfold ntW; rw [hW]; rfl))⟩
                              · refine T.aload_n dX9_putTo_174 rfl ?_
                                refine T.mget (v := rf E 42 0 0) dX9_putTo_175 fo_X9_38 ok29 rfl rfl ?_
                                refine T.iload_n dX9_putTo_178 rfl ?_
                                refine T.aI (z := S 42 d) (x := d) dX9_putTo_179 ok42 (fun _ => rfl) rfl (by omega) ((wrM_c rfl).trans (by simp [upT])) ?_
                                have q43 : -4 ≤ S 42 d ∧ S 42 d ≤ 299 := hS 42 d rfl
                                refine T.if_ge 188 dX9_putTo_180 (by unfold rg; omega) (fun c44 => ?_) (fun c44 => ?_)
                                · refine T.aload_n dX9_putTo_188 rfl ?_
                                  refine T.mget (v := rf E 42 0 0) dX9_putTo_189 fo_X9_38 ok29 rfl rfl ?_
                                  refine T.iload_n dX9_putTo_192 rfl ?_
                                  refine T.aI (z := S 42 d) (x := d) dX9_putTo_193 ok42 (fun _ => rfl) rfl (by omega) ((wrM_c rfl).trans (by simp [upT])) ?_
                                  refine T.nist (x := d) dX9_putTo_194 rfl ok42 (fun _ => rfl) rfl (by omega) ?_
                                  refine T.aload_n dX9_putTo_195 rfl ?_
                                  refine T.mget (v := rf E 41 0 0) dX9_putTo_196 fo_X9_35 ok29 rfl rfl ?_
                                  refine T.iload_n dX9_putTo_199 rfl ?_
                                  refine T.iload dX9_putTo_200 rfl ?_
                                  refine T.nist (x := d) dX9_putTo_202 rfl ok41 (fun _ => rfl) rfl (by omega) ?_
                                  refine T.lload dX9_putTo_203 rfl ?_
                                  have hW : (if S 46 d ≠ 0 ∧ S 42 d < 0 then y else S 42 d) = S 42 d := by split <;> omega
                                  exact T.lret dX9_putTo_205 ⟨by rw [hp3], congrArg (fun z => hp E (wrM m z)) (Eq.symm (show ntS S l d a y = (upT (upT (upT (upT (upT (upT S 40 d ((S 40 d) - (min a (S 40 d)))) 44 d ((S 44 d) + (min a (S 40 d)))) 39 d ((S 39 d) - (min (a - (min a (S 40 d))) (S 39 d)))) 43 d ((S 43 d) + (min (a - (min a (S 40 d))) (S 39 d)))) 42 d (S 42 d)) 41 d y) from by unfold ntS; rw [if_pos (by omega), hp1, hp2, ← ntB_A]; unfold ntW; rw [hW]; rfl))⟩
                                · refine T.iload dX9_putTo_183 rfl ?_
                                  refine T.goto 194 dX9_putTo_185 ?_
                                  refine T.nist (x := d) dX9_putTo_194 rfl ok42 (fun _ => rfl) rfl (by omega) ?_
                                  refine T.aload_n dX9_putTo_195 rfl ?_
                                  refine T.mget (v := rf E 41 0 0) dX9_putTo_196 fo_X9_35 ok29 rfl rfl ?_
                                  refine T.iload_n dX9_putTo_199 rfl ?_
                                  refine T.iload dX9_putTo_200 rfl ?_
                                  refine T.nist (x := d) dX9_putTo_202 rfl ok41 (fun _ => rfl) rfl (by omega) ?_
                                  refine T.lload dX9_putTo_203 rfl ?_
                                  have hW : (if S 46 d ≠ 0 ∧ S 42 d < 0 then y else S 42 d) = y := by split <;> omega
                                  exact T.lret dX9_putTo_205 ⟨by rw [hp3], congrArg (fun z => hp E (wrM m z)) (Eq.symm (show ntS S l d a y = (upT (upT (upT (upT (upT (upT S 40 d ((S 40 d) - (min a (S 40 d)))) 44 d ((S 44 d) + (min a (S 40 d)))) 39 d ((S 39 d) - (min (a - (min a (S 40 d))) (S 39 d)))) 43 d ((S 43 d) + (min (a - (min a (S 40 d))) (S 39 d)))) 42 d y) 41 d y) from by unfold ntS; rw [if_pos (by omega), hp1, hp2, ← ntB_A]; unfold ntW; rw [hW]; rfl))⟩
                          · exact absurd c38 (by omega)
                      · refine T.lload dX9_putTo_73 rfl ?_
                        refine T.goto 80 dX9_putTo_75 ?_
                        refine T.topl (z := min (a - (min a (S 40 d))) (S 39 d)) (congrArg lI (by omega)) ?_
                        refine T.lstore (ls' := [some (rf E 29 0 0), some (.int (iI (l : Int))), some (.int (iI (d : Int))), some (.long (lI a)), none, some (.int (iI y)), some (.int (iI 0)), some (.long (lI (a - (min a (S 40 d))))), none, some (.int (iI (0 + 1))), some (.int (iI 1)), some (.long (lI (S 39 d))), none, some (.long (lI (min (a - (min a (S 40 d))) (S 39 d)))), none]) dX9_putTo_80 rfl ?_
                        refine T.iload dX9_putTo_82 rfl ?_
                        refine T.if_eq 112 dX9_putTo_84 (by unfold rg; omega) (fun c45 => ?_) (fun c45 => ?_)
                        · exact absurd c45 (by omega)
                        · refine T.aload_n dX9_putTo_87 rfl ?_
                          refine T.mget (v := rf E 39 0 0) dX9_putTo_88 fo_X9_28 ok29 rfl rfl ?_
                          refine T.iload_n dX9_putTo_91 rfl ?_
                          refine T.dup2 dX9_putTo_92 ?_
                          refine T.aL (z := S 39 d) (x := d) dX9_putTo_93 ok39 (fun _ => rfl) rfl (by omega) ((wrM_c rfl).trans (by simp [upT])) ?_
                          refine T.lload dX9_putTo_94 rfl ?_
                          refine T.lsub dX9_putTo_96 ?_
                          refine T.nlst (x := d) dX9_putTo_97 rfl ok39 (fun _ => rfl) rfl (by omega) ?_
                          refine T.aload_n dX9_putTo_98 rfl ?_
                          refine T.mget (v := rf E 43 0 0) dX9_putTo_99 fo_X9_41 ok29 rfl rfl ?_
                          refine T.iload_n dX9_putTo_102 rfl ?_
                          refine T.dup2 dX9_putTo_103 ?_
                          refine T.aL (z := S 43 d) (x := d) dX9_putTo_104 ok43 (fun _ => rfl) rfl (by omega) ((wrM_c rfl).trans (by simp [upT])) ?_
                          refine T.lload dX9_putTo_105 rfl ?_
                          refine T.ladd dX9_putTo_107 ?_
                          refine T.nlst (x := d) dX9_putTo_108 rfl ok43 (fun _ => rfl) rfl (by omega) ?_
                          refine T.goto 134 dX9_putTo_109 ?_
                          refine T.lload dX9_putTo_134 rfl ?_
                          refine T.lload dX9_putTo_136 rfl ?_
                          refine T.lsub dX9_putTo_138 ?_
                          refine T.lstore (ls' := [some (rf E 29 0 0), some (.int (iI (l : Int))), some (.int (iI (d : Int))), some (.long (lI a)), none, some (.int (iI y)), some (.int (iI 0)), some (.long (lI ((a - (min a (S 40 d))) - (min (a - (min a (S 40 d))) (S 39 d))))), none, some (.int (iI (0 + 1))), some (.int (iI 1)), some (.long (lI (S 39 d))), none, some (.long (lI (min (a - (min a (S 40 d))) (S 39 d)))), none]) dX9_putTo_139 rfl ?_
                          refine T.iinc (ls' := [some (rf E 29 0 0), some (.int (iI (l : Int))), some (.int (iI (d : Int))), some (.long (lI a)), none, some (.int (iI y)), some (.int (iI 0)), some (.long (lI ((a - (min a (S 40 d))) - (min (a - (min a (S 40 d))) (S 39 d))))), none, some (.int (iI (0 + 1 + 1))), some (.int (iI 1)), some (.long (lI (S 39 d))), none, some (.long (lI (min (a - (min a (S 40 d))) (S 39 d)))), none]) dX9_putTo_141 rfl rfl ?_
                          refine T.goto 15 dX9_putTo_144 ?_
                          refine T.iload dX9_putTo_15 rfl ?_
                          refine T.iconst dX9_putTo_17 ?_
                          refine T.icmp_ge 147 dX9_putTo_18 (by unfold rg; omega) (by unfold rg; omega) (fun c46 => ?_) (fun c46 => ?_)
                          · refine T.lload_n dX9_putTo_147 rfl ?_
                            refine T.lload dX9_putTo_148 rfl ?_
                            refine T.lsub dX9_putTo_150 ?_
                            refine T.lstore (ls' := [some (rf E 29 0 0), some (.int (iI (l : Int))), some (.int (iI (d : Int))), some (.long (lI a)), none, some (.int (iI y)), some (.int (iI 0)), some (.long (lI ((a - (min a (S 40 d))) - (min (a - (min a (S 40 d))) (S 39 d))))), none, some (.long (lI (a - ((a - (min a (S 40 d))) - (min (a - (min a (S 40 d))) (S 39 d)))))), none, some (.long (lI (S 39 d))), none, some (.long (lI (min (a - (min a (S 40 d))) (S 39 d)))), none]) dX9_putTo_151 rfl ?_
                            have hp1 : nts S l d a = min (a - min a (S 40 d)) (S 39 d) := if_neg hs
                            have hp2 : ntr S l d a = min a (S 40 d) := if_neg hs
                            have hp3 : ntR S l d a = a - ((a - (min a (S 40 d))) - (min (a - (min a (S 40 d))) (S 39 d))) := by unfold ntR; rw [hp1, hp2]; omega
                            refine T.lload dX9_putTo_153 rfl ?_
                            refine T.lconst0 dX9_putTo_155 ?_
                            refine T.lcmp_le 203 dX9_putTo_156 dX9_putTo_157 (by unfold rl; omega) (by unfold rl; omega) (fun c47 => ?_) (fun c47 => ?_)
                            · refine T.lload dX9_putTo_203 rfl ?_
                              exact T.lret dX9_putTo_205 ⟨by rw [hp3], congrArg (fun z => hp E (wrM m z)) (Eq.symm (show ntS S l d a y = (upT (upT (upT (upT S 40 d ((S 40 d) - (min a (S 40 d)))) 44 d ((S 44 d) + (min a (S 40 d)))) 39 d ((S 39 d) - (min (a - (min a (S 40 d))) (S 39 d)))) 43 d ((S 43 d) + (min (a - (min a (S 40 d))) (S 39 d)))) from by unfold ntS; rw [if_neg (by omega), hp1, hp2, ← ntB_A]; rfl))⟩
                            · refine T.aload_n dX9_putTo_160 rfl ?_
                              refine T.mget (v := rf E 42 0 0) dX9_putTo_161 fo_X9_38 ok29 rfl rfl ?_
                              refine T.iload_n dX9_putTo_164 rfl ?_
                              refine T.aload_n dX9_putTo_165 rfl ?_
                              refine T.mget (v := rf E 46 0 0) dX9_putTo_166 fo_X9_47 ok29 rfl rfl ?_
                              refine T.iload_n dX9_putTo_169 rfl ?_
                              refine T.aZ (z := S 46 d) (x := d) dX9_putTo_170 ok46 (fun _ => rfl) rfl (by omega) ((wrM_c rfl).trans (by simp [upT])) ?_
                              have q48 : 0 ≤ S 46 d ∧ S 46 d ≤ 1 := hS 46 d rfl
                              refine T.if_eq 188 dX9_putTo_171 (by unfold rg; omega) (fun c49 => ?_) (fun c49 => ?_)
                              · refine T.aload_n dX9_putTo_188 rfl ?_
                                refine T.mget (v := rf E 42 0 0) dX9_putTo_189 fo_X9_38 ok29 rfl rfl ?_
                                refine T.iload_n dX9_putTo_192 rfl ?_
                                refine T.aI (z := S 42 d) (x := d) dX9_putTo_193 ok42 (fun _ => rfl) rfl (by omega) ((wrM_c rfl).trans (by simp [upT])) ?_
                                have q50 : -4 ≤ S 42 d ∧ S 42 d ≤ 299 := hS 42 d rfl
                                refine T.nist (x := d) dX9_putTo_194 rfl ok42 (fun _ => rfl) rfl (by omega) ?_
                                refine T.aload_n dX9_putTo_195 rfl ?_
                                refine T.mget (v := rf E 41 0 0) dX9_putTo_196 fo_X9_35 ok29 rfl rfl ?_
                                refine T.iload_n dX9_putTo_199 rfl ?_
                                refine T.iload dX9_putTo_200 rfl ?_
                                refine T.nist (x := d) dX9_putTo_202 rfl ok41 (fun _ => rfl) rfl (by omega) ?_
                                refine T.lload dX9_putTo_203 rfl ?_
                                have hW : (if S 46 d ≠ 0 ∧ S 42 d < 0 then y else S 42 d) = S 42 d := by split <;> omega
                                exact T.lret dX9_putTo_205 ⟨by rw [hp3], congrArg (fun z => hp E (wrM m z)) (Eq.symm (show ntS S l d a y = (upT (upT (upT (upT (upT (upT S 40 d ((S 40 d) - (min a (S 40 d)))) 44 d ((S 44 d) + (min a (S 40 d)))) 39 d ((S 39 d) - (min (a - (min a (S 40 d))) (S 39 d)))) 43 d ((S 43 d) + (min (a - (min a (S 40 d))) (S 39 d)))) 42 d (S 42 d)) 41 d y) from by unfold ntS; rw [if_pos (by omega), hp1, hp2, ← ntB_A]; unfold ntW; rw [hW]; rfl))⟩
                              · refine T.aload_n dX9_putTo_174 rfl ?_
                                refine T.mget (v := rf E 42 0 0) dX9_putTo_175 fo_X9_38 ok29 rfl rfl ?_
                                refine T.iload_n dX9_putTo_178 rfl ?_
                                refine T.aI (z := S 42 d) (x := d) dX9_putTo_179 ok42 (fun _ => rfl) rfl (by omega) ((wrM_c rfl).trans (by simp [upT])) ?_
                                have q51 : -4 ≤ S 42 d ∧ S 42 d ≤ 299 := hS 42 d rfl
                                refine T.if_ge 188 dX9_putTo_180 (by unfold rg; omega) (fun c52 => ?_) (fun c52 => ?_)
                                · refine T.aload_n dX9_putTo_188 rfl ?_
                                  refine T.mget (v := rf E 42 0 0) dX9_putTo_189 fo_X9_38 ok29 rfl rfl ?_
                                  refine T.iload_n dX9_putTo_192 rfl ?_
                                  refine T.aI (z := S 42 d) (x := d) dX9_putTo_193 ok42 (fun _ => rfl) rfl (by omega) ((wrM_c rfl).trans (by simp [upT])) ?_
                                  refine T.nist (x := d) dX9_putTo_194 rfl ok42 (fun _ => rfl) rfl (by omega) ?_
                                  refine T.aload_n dX9_putTo_195 rfl ?_
                                  refine T.mget (v := rf E 41 0 0) dX9_putTo_196 fo_X9_35 ok29 rfl rfl ?_
                                  refine T.iload_n dX9_putTo_199 rfl ?_
                                  refine T.iload dX9_putTo_200 rfl ?_
                                  refine T.nist (x := d) dX9_putTo_202 rfl ok41 (fun _ => rfl) rfl (by omega) ?_
                                  refine T.lload dX9_putTo_203 rfl ?_
                                  have hW : (if S 46 d ≠ 0 ∧ S 42 d < 0 then y else S 42 d) = S 42 d := by split <;> omega
                                  exact T.lret dX9_putTo_205 ⟨by rw [hp3], congrArg (fun z => hp E (wrM m z)) (Eq.symm (show ntS S l d a y = (upT (upT (upT (upT (upT (upT S 40 d ((S 40 d) - (min a (S 40 d)))) 44 d ((S 44 d) + (min a (S 40 d)))) 39 d ((S 39 d) - (min (a - (min a (S 40 d))) (S 39 d)))) 43 d ((S 43 d) + (min (a - (min a (S 40 d))) (S 39 d)))) 42 d (S 42 d)) 41 d y) from by unfold ntS; rw [if_pos (by omega), hp1, hp2, ← ntB_A]; unfold ntW; rw [hW]; rfl))⟩
                                · refine T.iload dX9_putTo_183 rfl ?_
                                  refine T.goto 194 dX9_putTo_185 ?_
                                  refine T.nist (x := d) dX9_putTo_194 rfl ok42 (fun _ => rfl) rfl (by omega) ?_
                                  refine T.aload_n dX9_putTo_195 rfl ?_
                                  refine T.mget (v := rf E 41 0 0) dX9_putTo_196 fo_X9_35 ok29 rfl rfl ?_
                                  refine T.iload_n dX9_putTo_199 rfl ?_
                                  refine T.iload dX9_putTo_200 rfl ?_
                                  refine T.nist (x := d) dX9_putTo_202 rfl ok41 (fun _ => rfl) rfl (by omega) ?_
                                  refine T.lload dX9_putTo_203 rfl ?_
                                  have hW : (if S 46 d ≠ 0 ∧ S 42 d < 0 then y else S 42 d) = y := by split <;> omega
                                  exact T.lret dX9_putTo_205 ⟨by rw [hp3], congrArg (fun z => hp E (wrM m z)) (Eq.symm (show ntS S l d a y = (upT (upT (upT (upT (upT (upT S 40 d ((S 40 d) - (min a (S 40 d)))) 44 d ((S 44 d) + (min a (S 40 d)))) 39 d ((S 39 d) - (min (a - (min a (S 40 d))) (S 39 d)))) 43 d ((S 43 d) + (min (a - (min a (S 40 d))) (S 39 d)))) 42 d y) 41 d y) from by unfold ntS; rw [if_pos (by omega), hp1, hp2, ← ntB_A]; unfold ntW; rw [hW]; rfl))⟩
                          · exact absurd c46 (by omega)
                · exact absurd c32 (by omega)
            · exact absurd c30 (by omega)
        · exact absurd c4 (by omega)
      · exact absurd c3 (by omega)
theorem n_putTo (E : Ev) (m : Mem) (S : PS) (l d : Nat) (a y : Int) (hS : InvS kM S) (hl : l < 2) (hd : d < 8) (ha : 0 ≤ a ∧ a ≤ 9000000000000000000) : CT E 2 mX9_putTo [rf E 29 0 0, .int (iI (l : Int)), .int (iI (d : Int)), .long (lI a), .int (iI y)] (hp E (wrM m S)) (some (.long (lI (ntR S l d a)))) (hp E (wrM m (ntS S l d a y))) := by
  by_cases hs : hasM S l 115
  · exact n_putTo_t E m S l d a y hS hl hd ha hs
  · exact n_putTo_f E m S l d a y hS hl hd ha hs
