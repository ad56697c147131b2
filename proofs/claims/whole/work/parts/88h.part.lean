/-- two courses beside each other at a day, and the model's two passes -/
def PR (m C : Mem) (S : PS) (N y : Nat) : Prop := Inv C ∧ Core m C ∧ CBm C 0 ∧ CBm C 1 ∧ CR (bk C (2 + 0)) (lw C (16 + 0)) S 0 ∧ CR (bk C (2 + 1)) (lw C (16 + 1)) S 1 ∧ (y < N → MR (bk C (2 + 0)) (fun k => C k 0 0) (rnS (ptM S y) y) y 0 ∧ MR (bk C (2 + 1)) (fun k => C k 1 0) (rnS (mdS (ptM S N) 1 y) y) y 0)
theorem gbMem_bk {m : Mem} {j b : Nat} {y : Int} : bk (gbMem m j y) b = bk m b := bk_congr (funext fun i => wrC_d rfl) (funext fun i => wrC_d rfl) (funext fun i => wrC_d rfl) (funext fun i => wrC_d rfl)
theorem gbMem_lw {m : Mem} {j q : Nat} {y : Int} : lw (gbMem m j y) q = lw m q := lw_congr (funext fun i => wrC_d rfl) (funext fun i => wrC_d rfl)
theorem gbMem_cs {m : Mem} {j : Nat} {y : Int} : (fun k => gbMem m j y k j 0) = gbS (bk m (2 + j)) (lw m (16 + j)) (fun k => m k j 0) y := wrC_cs gb_oj
theorem gbMem_csj {m : Mem} {j q : Nat} {y : Int} (h : q ≠ j) : (fun k => gbMem m j y k q 0) = (fun k => m k q 0) := wrC_csj h
theorem gbMem_core {m : Mem} {j : Nat} {y : Int} : Core m (gbMem m j y) := fun k j i h => wrC_core h
theorem hy_of {C : Mem} (hI : Inv C) (b : Nat) : PyR (bk C b) ∧ bk C b 13 0 ≤ 12 := by
  refine ⟨fun p _ => ⟨hI 7 b p 0, hI 7 b p 2, hI 7 b p 3⟩, ?_⟩
  have : 0 ≤ C 1 b 0 3 ∧ C 1 b 0 3 ≤ 12 := hI 1 b 0 3
  exact this.2
theorem part_step {m C : Mem} {S : PS} {N y : Nat} (hN : N = 300) (hy : y < N) (hS : InvS kM S) (hO : mOK S) (h : PR m C S N y) : PR m (ptS C y) S N (y + 1) ∧ (alkP (ptS C y) ↔ pqE (gdS (mdS (ptM S N) 1 y) 1 y) y (S 29 0).toNat = true) := by
  obtain ⟨i1, i2, i3, i4, i5, i6, i7⟩ := h
  obtain ⟨m0, m1⟩ := i7 hy
  obtain ⟨r0, q0⟩ := hy_of i1 (2 + 0)
  obtain ⟨r1, q1⟩ := hy_of i1 (2 + 1)
  obtain ⟨p1, p2, p3, p4⟩ := pt_ok hS hO y (by omega)
  obtain ⟨n1, n2, n3, n4⟩ := pt_ok hS hO N (by omega)
  have hO' : mOK (ptM S N) := hO.wg n4
  obtain ⟨o1, o2, o3, o4⟩ := md_ok (l := 1) n1 hO' y (by omega)
  have hK0 : MK (ptM S y) y := ⟨p1, hO.wg p4, p2, p3⟩
  have hK1 : MK (mdS (ptM S N) 1 y) y := ⟨o1, hO'.wf o4, o2, o3⟩
  obtain ⟨a1, a2⟩ := day_sim (by omega) (i5.wg p4) r0 q0 hK0 m0
  obtain ⟨b1, b2⟩ := day_sim (by omega) ((i6.wg n4).wf o4) r1 q1 hK1 m1
  obtain ⟨g1, g2⟩ := gbMem_inv (j := 0) (y := (y : Int)) i1 i3 (by omega)
  have g3 : CBm (gbMem C 0 y) 1 := gbMem_CB (by omega) i4
  obtain ⟨g4, g5⟩ := gbMem_inv (j := 1) (y := (y : Int)) g1 g3 (by omega)
  have g6 : CBm (ptS C y) 0 := gbMem_CB (by omega) g2
  have eb : ∀ b, bk (ptS C y) b = bk C b := fun b => by unfold ptS; rw [gbMem_bk, gbMem_bk]
  have el : ∀ q, lw (ptS C y) q = lw C q := fun q => by unfold ptS; rw [gbMem_lw, gbMem_lw]
  have e0 : (fun k => ptS C y k 0 0) = gbS (bk C (2 + 0)) (lw C (16 + 0)) (fun k => C k 0 0) y := by
    unfold ptS
    rw [gbMem_csj (by omega), gbMem_cs]
  have e1 : (fun k => ptS C y k 1 0) = gbS (bk C (2 + 1)) (lw C (16 + 1)) (fun k => C k 1 0) y := by
    unfold ptS
    rw [gbMem_cs, gbMem_bk, gbMem_lw, gbMem_csj (by omega)]
  have ep : ptM S (y + 1) = lfL (gdS (ptM S y) 0 y) y (S 29 0).toNat := rfl
  have em : mdS (ptM S N) 1 (y + 1) = gdS (mdS (ptM S N) 1 y) 1 y := rfl
  have hn0 : bk C (2 + 0) 12 0 = S 29 0 := i5.1.1
  have hn1 : bk C (2 + 1) 12 0 = S 29 0 := i6.1.1
  refine ⟨⟨g4, i2.tr (gbMem_core.tr gbMem_core), g6, g5, ?_, ?_, fun hy2 => ?_⟩, ?_⟩
  · rw [eb, el]; exact i5
  · rw [eb, el]; exact i6
  · rw [eb, eb, e0, e1]
    obtain ⟨p1', p2', p3', p4'⟩ := pt_ok hS hO (y + 1) (by omega)
    obtain ⟨o1', o2', o3', o4'⟩ := md_ok (l := 1) n1 hO' (y + 1) (by omega)
    have c1 := (a1.cd (D' := ptM S (y + 1)) (fun k h1 h2 => by rw [ep, lfL_k (by omega)])).next (i5.wg p4')
    have c2 := b1.next (D := mdS (ptM S N) 1 (y + 1)) ((i6.wg n4).wf o4')
    exact ⟨c1, c2⟩
  · rw [pqE_t]
    unfold alkP
    have ec : ptS C y 1 (2 + 0) 0 1 = S 29 0 := by
      have h := congrFun (congrFun (eb (2 + 0)) 12) 0
      exact h.trans hn0
    rw [ec, eb, eb, e0, e1]
    have b0 : 0 ≤ S 29 0 ∧ S 29 0 ≤ 8 := hS 29 0 rfl
    have key : ∀ x, x < (S 29 0).toNat → ((leftS (bk C (2 + 0)) (gbS (bk C (2 + 0)) (lw C (16 + 0)) (fun k => C k 0 0) y) x = leftS (bk C (2 + 1)) (gbS (bk C (2 + 1)) (lw C (16 + 1)) (fun k => C k 1 0) y) x) ↔ gdS (mdS (ptM S N) 1 y) 1 y 53 (8 * y + x) = gdS (mdS (ptM S N) 1 y) 1 y 39 x + gdS (mdS (ptM S N) 1 y) 1 y 40 x) := fun x hx => by
      rw [left_eq a2 (by rw [hn0]; omega), left_eq b2 (by rw [hn1]; omega)]
      have w := md_ok (l := 1) n1 hO' (y + 1) (by omega)
      have e53 : gdS (mdS (ptM S N) 1 y) 1 y 53 (8 * y + x) = lf0 S y x := by
        rw [← em, w.2.2.2.1 53 (by omega) (by omega)]
        exact ptM_53 hS hO N (by omega) y x hy (by omega)
      rw [e53]
      exact Iff.rfl
    exact ⟨fun h x hx => (key x hx).mp (h x hx), fun h x hx => (key x hx).mpr (h x hx)⟩
theorem parts_loop {m : Mem} {S : PS} {N : Nat} (hN : N = 300) (hS : InvS kM S) (hO : mOK S) : ∀ (k y : Nat) (C : Mem), y + k = N → PR m C S N y → (ptL k y C).1 = (pqN (S 29 0).toNat k y (mdS (ptM S N) 1 y)).1 ∧ Inv (ptL k y C).2 ∧ Core m (ptL k y C).2 ∧ ∃ n, n ≤ N ∧ (pqN (S 29 0).toNat k y (mdS (ptM S N) 1 y)).2 = mdS (ptM S N) 1 n
  | 0, y, C, h, hP => ⟨rfl, hP.1, hP.2.1, y, by omega, rfl⟩
  | k + 1, y, C, h, hP => by
    obtain ⟨s1, s2⟩ := part_step hN (by omega) hS hO hP
    have em : mdS (ptM S N) 1 (y + 1) = gdS (mdS (ptM S N) 1 y) 1 y := rfl
    have i := parts_loop hN hS hO k (y + 1) (ptS C y) (by omega) s1
    rw [show ((y + 1 : Nat) : Int) = (y : Int) + 1 by omega, em] at i
    unfold ptL pqN
    by_cases c : alkP (ptS C y)
    · rw [if_pos c, if_pos (s2.mp c)]
      exact i
    · rw [if_neg c, if_neg (fun h => c (s2.mpr h))]
      exact ⟨rfl, s1.1, s1.2.1, y + 1, by omega, em.symm⟩
theorem s_parts : Sim_parts := by
  intro N hN
  refine simQ fun m S hI hA hS hO => ?_
  obtain ⟨n1, n2, n3, n4⟩ := pt_ok hS hO N (by omega)
  have hO' : mOK (ptM S N) := hO.wg n4
  obtain ⟨y1, y2, y3⟩ := ptY_inv hI
  have hX := ptX_inv hI
  have hcX : Core m (ptX m) := fun k j i h => by
    unfold ptX
    exact (wrC_core h).trans (stM_core h)
  have hcY : Core m (ptY m) := hcX.tr (fun k j i h => by
    unfold ptY
    exact (wrC_core h).trans (stM_core h))
  have hAX : RlA (ptX m) S := hA.c hcX WG.rf
  have hC0 := st_CR (j := 0) hI hA (show 0 < 2 by omega)
  have hC1 := st_CR (j := 1) hX hAX (show 1 < 2 by omega)
  have so : ∀ k j i, ((k ≠ 1 ∧ k ≠ 5 ∧ k ≠ 6 ∧ k ≠ 7) ∨ j ≠ 3) → ((k ≠ 8 ∧ k ≠ 9) ∨ (j ≠ 6 ∧ j ≠ 7 ∧ j ≠ 17)) → stM (ptX m) 1 0 1 k j i = ptX m k j i := fun k j i h1 h2 => by
    unfold stM
    rw [cpLaw_o (by omega), cpBk_o (by omega) (by omega)]
  have eb0 : bk (ptY m) (2 + 0) = bk (stM m 0 0 0) (2 + 0) := by
    have h : ∀ k i, (k = 1 ∨ k = 5 ∨ k = 6 ∨ k = 7) → ptY m k (2 + 0) i = stM m 0 0 0 k (2 + 0) i := fun k i hk => by
      have hc : kC k = false := by rcases hk with rfl | rfl | rfl | rfl <;> rfl
      unfold ptY
      rw [wrC_d hc, so k (2 + 0) i (by omega) (by omega)]
      unfold ptX
      rw [wrC_d hc]
    exact bk_congr (funext fun i => h 1 i (by omega)) (funext fun i => h 5 i (by omega)) (funext fun i => h 6 i (by omega)) (funext fun i => h 7 i (by omega))
  have el0 : lw (ptY m) (16 + 0) = lw (stM m 0 0 0) (16 + 0) := by
    have h : ∀ k i, (k = 8 ∨ k = 9) → ptY m k (16 + 0) i = stM m 0 0 0 k (16 + 0) i := fun k i hk => by
      have hc : kC k = false := by rcases hk with rfl | rfl <;> rfl
      unfold ptY
      rw [wrC_d hc, so k (16 + 0) i (by omega) (by omega)]
      unfold ptX
      rw [wrC_d hc]
    exact lw_congr (funext fun i => h 8 i (by omega)) (funext fun i => h 9 i (by omega))
  have eb1 : bk (ptY m) (2 + 1) = bk (stM (ptX m) 1 0 1) (2 + 1) := by
    unfold ptY
    exact bk_congr (funext fun i => wrC_d rfl) (funext fun i => wrC_d rfl) (funext fun i => wrC_d rfl) (funext fun i => wrC_d rfl)
  have el1 : lw (ptY m) (16 + 1) = lw (stM (ptX m) 1 0 1) (16 + 1) := by
    unfold ptY
    exact lw_congr (funext fun i => wrC_d rfl) (funext fun i => wrC_d rfl)
  have ec0 : (fun k => ptY m k 0 0) = stS (bk (stM m 0 0 0) (2 + 0)) (fun k => (stM m 0 0 0) k 0 0) := by
    unfold ptY
    rw [wrC_csj (by omega)]
    funext k
    by_cases c : kC k = true
    · have hk : 9 < k := by unfold kC at c; simp at c; omega
      rw [so k 0 0 (by omega) (by omega)]
      unfold ptX
      exact wrC_cf c
    · have c' : kC k = false := by simpa using c
      rw [stS_oj k c']
      by_cases hb : (k ≠ 8 ∧ k ≠ 9) 
      · rw [so k 0 0 (by omega) (by omega)]
        unfold ptX
        rw [wrC_d c']
      · rw [so k 0 0 (by omega) (by omega)]
        unfold ptX
        rw [wrC_d c']
  have ec1 : (fun k => ptY m k 1 0) = stS (bk (stM (ptX m) 1 0 1) (2 + 1)) (fun k => (stM (ptX m) 1 0 1) k 1 0) := by
    unfold ptY
    exact wrC_cs stS_oj
  obtain ⟨z1, z2, z3, z4, z5⟩ := st_hy (j := 0) (ln := 0) hI
  obtain ⟨w1, w2, w3, w4, w5⟩ := st_hy (j := 1) (ln := 1) hX
  have hP : PR m (ptY m) S N 0 := by
    refine ⟨y1, hcY, y2, y3, by rw [eb0, el0]; exact hC0, by rw [eb1, el1]; exact hC1, fun _ => ?_⟩
    rw [eb0, eb1, ec0, ec1]
    exact ⟨MR.beg hC0 z3 z4 z5 z1, MR.beg (hC1.wg n4) w3 w4 w5 w1⟩
  obtain ⟨g1, g2, g3, n, g4, g5⟩ := parts_loop hN hS hO N 0 (ptY m) (by omega) hP
  have e0 : mdS (ptM S N) 1 0 = begS (ptM S N) := rfl
  rw [e0] at g1 g5
  obtain ⟨o1, o2, o3, o4⟩ := md_ok (l := 1) n1 hO' n (by omega)
  unfold partsR partsM npartsR npartsS
  rw [g5]
  rw [hN] at g1 g2 g3 ⊢
  exact ⟨g2, g3, g1, by rw [← hN]; exact o1, by rw [← hN]; exact n4.tr o4.wg⟩
