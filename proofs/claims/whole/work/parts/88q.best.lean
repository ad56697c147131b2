theorem simQ2 {Cr : Mem → Int} {Cm : Mem → Mem} {Nr : PS → Int} {Ns : PS → PS} (h : ∀ m S, Inv m → RlA m S → InvS kM S → mOK S → Inv (Cm m) ∧ Core m (Cm m) ∧ Cr m = Nr S ∧ InvS kM (Ns S) ∧ RlA m (Ns S)) : SimX Cr Cm Nr Ns := by
  intro m hG
  have hA := rel_of hG.2
  have key : ∀ S, (∀ k, kM k = true → S k = mv m k) → Inv (Cm m) ∧ Core m (Cm m) ∧ Cr m = Nr S ∧ InvS kM (Ns S) ∧ RlA m (Ns S) := fun S hS => by
    have hA2 := hA.k hS
    exact h m S hG.1 hA2 (fun k x hk => by rw [hS k hk]; exact hG.1 k 0 0 x) (good_ok hG.1 hA2.1)
  have h2 := (key (mv m) (fun _ _ => rfl)).2.1
  have hv : ∀ k, kM k = true → mv (Cm m) k = mv m k := fun k hk => by
    show Cm m k 0 0 = m k 0 0
    refine h2 k 0 0 ?_
    simp [kM] at hk
    unfold core
    rw [if_neg (by omega), if_neg (by omega)]
    simp; omega
  obtain ⟨h1, -, h3, h4, h5⟩ := key (mv (Cm m)) hv
  exact ⟨h1, good_ok hG.1 (hA.k hv).1, h3, good_wr h1 h4 (h5.c h2 WG.rf)⟩
theorem st1_core {D : Mem} {j ln : Nat} : Core D (st1 D j ln) := fun k i x h => by
  unfold st1
  exact (wrC_core h).trans (stM_core h)
theorem fiL_core {D : Mem} {ln : Nat} : ∀ i, Core D (fiL D ln i)
  | 0 => Core.rf
  | i + 1 => (fiL_core i).tr st1_core
theorem fi1_core {m : Mem} {n y : Int} : Core m (fi1 m n y) := fun k j i h => by
  have hk : k < 10 ∨ 23 < k := by
    unfold core at h
    by_cases e1 : k = 1 ∨ k = 5 ∨ k = 6 ∨ k = 7
    · omega
    · by_cases e2 : k = 8 ∨ k = 9
      · omega
      · rw [if_neg e1, if_neg e2] at h
        simpa using h
  unfold fi1 updS
  rw [if_neg (by omega)]
  unfold fi0
  rw [up_o (by omega), up_o (by omega), up_o (by omega)]
theorem fiL_at {D : Mem} {ln : Nat} : ∀ i, i ≤ 4 → ∀ x, x < i → bk (fiL D ln i) (2 + (2 + x)) = bk (stM (fiL D ln x) (2 + x) 0 ln) (2 + (2 + x)) ∧ lw (fiL D ln i) (16 + (2 + x)) = lw (stM (fiL D ln x) (2 + x) 0 ln) (16 + (2 + x)) ∧ ∀ k, kC k = true → fiL D ln i k (2 + x) 0 = stS (bk (stM (fiL D ln x) (2 + x) 0 ln) (2 + (2 + x))) (cs (stM (fiL D ln x) (2 + x) 0 ln) (2 + x)) k
  | 0, _, x, h => by omega
  | i + 1, hi, x, h => by
    have e : fiL D ln (i + 1) = st1 (fiL D ln i) (2 + i) ln := rfl
    by_cases c : x = i
    · subst c
      rw [e]
      unfold st1
      refine ⟨bk_congr (funext fun i => wrC_d rfl) (funext fun i => wrC_d rfl) (funext fun i => wrC_d rfl) (funext fun i => wrC_d rfl), lw_congr (funext fun i => wrC_d rfl) (funext fun i => wrC_d rfl), fun k hk => wrC_cf hk⟩
    · obtain ⟨i1, i2, i3⟩ := fiL_at (D := D) (ln := ln) i (by omega) x (by omega)
      have hb : ∀ k z, (k = 1 ∨ k = 5 ∨ k = 6 ∨ k = 7) → st1 (fiL D ln i) (2 + i) ln k (2 + (2 + x)) z = fiL D ln i k (2 + (2 + x)) z := fun k z hk => by
        have hc : kC k = false := by rcases hk with rfl | rfl | rfl | rfl <;> rfl
        unfold st1
        rw [wrC_d hc]
        unfold stM
        rw [cpLaw_o (by omega), cpBk_o (by omega) (by omega)]
      have hl : ∀ k z, (k = 8 ∨ k = 9) → st1 (fiL D ln i) (2 + i) ln k (16 + (2 + x)) z = fiL D ln i k (16 + (2 + x)) z := fun k z hk => by
        have hc : kC k = false := by rcases hk with rfl | rfl <;> rfl
        unfold st1
        rw [wrC_d hc]
        unfold stM
        rw [cpLaw_o (by omega), cpBk_o (by omega) (by omega)]
      refine ⟨?_, ?_, fun k hk => ?_⟩
      · rw [← i1, e]
        exact bk_congr (funext fun z => hb 1 z (by omega)) (funext fun z => hb 5 z (by omega)) (funext fun z => hb 6 z (by omega)) (funext fun z => hb 7 z (by omega))
      · rw [← i2, e]
        exact lw_congr (funext fun z => hl 8 z (by omega)) (funext fun z => hl 9 z (by omega))
      · rw [← i3 k hk, e]
        exact st1_c hk (by omega)
/-- the search begins -/
theorem find_nd {m : Mem} {S : PS} {l n P Y c : Nat} (hI : Inv m) (hA : RlA m S) (hS : InvS kM S) (hO : mOK S) (hl : l < 2) (hn3 : n ≤ 3) (hP : S 29 2 = P) (hc : S 29 0 = c) (hn : n ≤ P) (hY : Y ≤ 299) : ND S l n P Y c (fiM m l n Y) 2 3 (vd n c) ∧ fiM m l n Y 20 0 0 2 = 0 ∧ Core m (fiM m l n Y) := by
  have hI1 : Inv (fi1 m n Y) := fi1_inv hI (by omega) (by omega)
  have b0 : 0 ≤ S 29 0 ∧ S 29 0 ≤ 8 := hS 29 0 rfl
  have hAx : ∀ x, RlA (fiL (fi1 m n Y) l x) S := fun x => hA.c (fi1_core.tr (fiL_core x)) WG.rf
  have hIx : ∀ x, x ≤ 4 → Inv (fiL (fi1 m n Y) l x) := fun x hx => (fiL_ok (ln := l) hI1 x hx).1
  have hk : ∀ k, 19 < k → fiM m l n Y k = fi1 m n Y k := (fiL_ok (ln := l) hI1 4 (Nat.le_refl _)).2.2.2.2
  have e20 : ∀ x, fiM m l n Y 20 0 0 x = fi0 m n Y 20 0 0 x := fun x => by
    rw [hk 20 (by omega)]
    unfold fi1 updS
    rw [if_neg (by omega)]
  have e22 : ∀ i, i < 3 → fiM m l n Y 22 0 0 i = -1 := fun i hi => by
    rw [hk 22 (by omega)]
    unfold fi1 updS
    rw [if_pos ⟨rfl, rfl, rfl⟩]
    unfold fil0
    rw [if_pos hi]
  have hat := fiL_at (D := fi1 m n Y) (ln := l) 4 (Nat.le_refl _)
  have hCx : ∀ x, x < 4 → CR (bk (fiM m l n Y) (2 + (2 + x))) (lw (fiM m l n Y) (16 + (2 + x))) S l := fun x hx => by
    obtain ⟨a1, a2, -⟩ := hat x hx
    have := st_CR (j := 2 + x) (hIx x (by omega)) (hAx x) hl
    rw [← a1, ← a2] at this
    exact this
  have hBX : BX S l n (fiM m l n Y) 2 := fun i h1 h2 W => by
    have := hCx (i - 2) (by omega)
    rw [show 2 + (i - 2) = i by omega] at this
    exact this.bw
  obtain ⟨a1, a2, a3⟩ := hat 0 (by omega)
  obtain ⟨z1, z2, z3, z4, z5⟩ := st_hy (j := 2 + 0) (ln := l) (hIx 0 (by omega))
  have hC0 := st_CR (j := 2 + 0) (hIx 0 (by omega)) (hAx 0) hl
  obtain ⟨β, hβ⟩ : ∃ β, β = bk (stM (fiL (fi1 m n Y) l 0) (2 + 0) 0 l) (2 + (2 + 0)) := ⟨_, rfl⟩
  obtain ⟨L, hL⟩ : ∃ L, L = lw (stM (fiL (fi1 m n Y) l 0) (2 + 0) 0 l) (16 + (2 + 0)) := ⟨_, rfl⟩
  obtain ⟨T0, hT0⟩ : ∃ T0, T0 = cs (stM (fiL (fi1 m n Y) l 0) (2 + 0) 0 l) (2 + 0) := ⟨_, rfl⟩
  have z3' : InvS kC T0 := by rw [hT0]; exact z3
  rw [← hβ] at z1 z2 z4 z5
  rw [← hβ, ← hL] at hC0
  rw [← hβ, ← hT0] at a3
  have eb : bk (fiM m l n Y) (2 + 2) = β := by rw [hβ]; exact a1
  have ec : ∀ k, kC k = true → cs (fiM m l n Y) 2 k = stS β T0 k := fun k hk => a3 k hk
  have m0 := MR.beg hC0 z3' z4 z5 z1
  have t2 : stS β T0 10 2 = 0 := by
    have := m0.2.1.1
    have g := m0.1
    by_cases h : stS β T0 10 2 < 0
    · have q : 0 ≤ stS β T0 10 2 ∧ stS β T0 10 2 ≤ 299 := (stS_inv z3' z4).1 10 2 rfl
      omega
    · omega
  have hR : ∀ i, i < n → RemP (bk (fiM m l n Y) (2 + 2)) (cs (fiM m l n Y) 2) i := fun i hi => by
    have hr := (m0.2.2.2 i (by rw [hC0.1.2.1]; show (i : Int) < S 29 2; omega)).mpr (by
      have := (z1 i (by rw [hC0.1.2.1]; show (i : Int) < S 29 2; omega)).1
      omega)
    unfold RemP at hr ⊢
    rw [eb, ec 10 rfl]
    exact hr
  have hnf : ∀ W, vd n c W → NF (bW (bk (fiM m l n Y) (2 + 2)) n W) (SW S n W) (cs (fiM m l n Y) 2) l P Y c (oW S l n Y W) := fun W hW => by
    rw [eb]
    have hCw : CR (bW β n W) L (SW S n W) l := hC0.bw
    have hSw := SW_inv hS (by omega) hW
    have hOw := SW_ok hO (by omega) hW
    have hw : ∀ d, 0 ≤ bW β n W 0 d ∧ bW β n W 0 d ≤ 9999 := fun d => by rw [bW_f 0 (by omega)]; exact z4 d
    have h1 : ∀ d, 0 ≤ bW β n W 1 d := fun d => by rw [bW_f 1 (by omega)]; exact z5 d
    have mw := MR.beg hCw z3' hw h1 (z1.bw (fun i hi => by have := hW i hi; omega))
    have es : stS (bW β n W) T0 = stS β T0 := stS_cg (bW_f 0 (by omega)) (by rw [bW_f 12 (by omega)])
    rw [es] at mw
    have hCb : CR (bW β n W) L (rnS (begS (SW S n W)) 0) l := (hCw.wf (begL_wf 8)).wf rnS_wf
    have mw2 := mw.mv (T' := cs (fiM m l n Y) 2) hCb hCb t2 (by rw [ec 10 rfl]) (by rw [ec 10 rfl]) (fun k d hk _ => by rw [ec k (by rcases hk with rfl | rfl | rfl | rfl <;> rfl)])
    have kb := MK.beg hSw hOw
    have r := rnS_cm (y := 0) kb.1 kb.2.1 kb.2.2.1 kb.2.2.2 (by omega)
    have e29 : SW S n W 29 = S 29 := SW_k (by omega)
    refine ⟨rnS (begS (SW S n W)) 0, 0, 0, by omega, by omega, mw2, ⟨r.1, kb.2.1.wf rnS_wf, r.2, rnS_z40 kb.2.2.2⟩, (begL_wf 8).tr rnS_wf, ?_⟩
    exact Ft_beg hSw hOw (by rw [e29, hP, Int.toNat_natCast]) (by rw [e29, hc, Int.toNat_natCast]) hY
  refine ⟨⟨⟨?_, ?_⟩, hBX, fun i hi => ?_, fun W hv _ => hv, fun W hv => ⟨hv, fun i hi hnr => absurd (hR i hi) hnr⟩, hnf, Nat.le_trans (cnP_le _ n) hn3⟩, ?_, fi1_core.tr (fiL_core 4)⟩
  · rw [e20]; simp [fi0, up]
  · rw [e20]; simp [fi0, up]
  · rw [e22 i (by omega)]
    exact ⟨by omega, by omega, fun _ => rfl⟩
  · rw [e20]; simp [fi0, up]
