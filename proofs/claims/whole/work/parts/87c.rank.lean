/-- the dead, found by both -/
theorem dead_sim {β L T D : PS} {l : Nat} {y : Int} (hC : CR β L D l) (h : DR β T D y) : DR β (deadS β T) (rkS D y) y ∧ ∀ d : Nat, (d : Int) < β 12 0 → deadS β T 16 d = rkS D y 46 d := by
  have hn : β 12 0 = D 29 0 := hC.1.1
  unfold deadS rkS
  refine ⟨h.c (by rw [deadL_k (by omega)]) (fun k hk => deadL_k (by omega) _) (fun k hk => rkL_k (by omega) _), fun d hd => ?_⟩
  have r : ∀ n d, d < n → rkL D y n 46 d = bZ (dyM D d y) := by
    intro n
    induction n with
    | zero => intro d h; omega
    | succ n ih =>
      intro d h
      show upT (rkL D y n) 46 n _ 46 d = _
      by_cases e : d = n
      · subst e; rw [upT_self]
      · rw [upT_x e]; exact ih d (by omega)
  rw [deadL_at _ d (by omega), r _ d (by omega)]
  exact dead_eq hC h hd
theorem ord_cg {β L T T' : PS} (h : ∀ k, k ≠ 18 → k ≠ 19 → T' k = T k) : ordS β L T' = ordS β L T := by
  unfold ordS
  have e1 : okS1 β L T' = okS1 β L T := by
    funext d
    unfold okS1 opS
    rw [h 10 (by omega) (by omega), h 11 (by omega) (by omega), h 12 (by omega) (by omega), h 16 (by omega) (by omega)]
  have e2 : cmpS β L T' = cmpS β L T := by
    funext a b
    unfold cmpS
    rw [h 10 (by omega) (by omega), h 11 (by omega) (by omega), h 12 (by omega) (by omega)]
  rw [e1, e2, h 17 (by omega) (by omega)]
/-- the order behind a day, class and model -/
theorem rank_sim {β L T D : PS} {l : Nat} {y : Int} (hC : CR β L D l) (h : DR β T D y) : (ordS β L (deadS β T)).1 = (orM (rkS D y) l y).1 ∧ ((ordS β L (deadS β T)).1 : Int) ≤ β 12 0 ∧ ∀ k, k < (ordS β L (deadS β T)).1 → (ordS β L (deadS β T)).2 k = (orM (rkS D y) l y).2 k := by
  obtain ⟨g1, g2⟩ := dead_sim hC h
  have hW : WF D (rkS D y) := ⟨fun k hk h29 => rkL_k (by omega) _, fun x hx => by unfold rkS; rw [rkL_k (by omega)]⟩
  obtain ⟨E, hE⟩ : ∃ E, E = rkS D y := ⟨_, rfl⟩
  rw [← hE] at g1 g2 hW ⊢
  have hk : ∀ k, k ≠ 18 → k ≠ 19 → setT (setT (deadS β T) 18 (E 43)) 19 (E 44) k = deadS β T k := fun k h1 h2 => by rw [setT_d h2, setT_d h1]
  have hG : GR β (setT (setT (deadS β T) 18 (E 43)) 19 (E 44)) E y := by
    refine ⟨g1.c (by rw [hk 10 (by omega) (by omega)]) (fun k hk2 => hk k (by omega) (by omega)) (fun _ _ => rfl), fun d hd => ?_⟩
    rw [hk 16 (by omega) (by omega), setT_k, setT_d (by omega), setT_k]
    exact ⟨g2 d hd, rfl, rfl⟩
  obtain ⟨o1, o2, o3, -⟩ := ord_sim (hC.wf hW) hG
  rw [ord_cg hk] at o1 o2 o3
  exact ⟨o1, o2, fun k h => (o3 k h).1⟩
theorem s_rank : Sim_rank := by
  intro l y i hl hy hi
  refine simQ fun m S hI hA hS hO => ?_
  unfold rankR rankM nrankR nrankS
  by_cases c1 : ¬ ((0 ≤ l ∧ l ≤ 1) ∧ (0 ≤ y ∧ y ≤ 299) ∧ 0 ≤ i)
  · simp only [if_pos c1]; exact ⟨hI, Core.rf, trivial, hS, WG.rf⟩
  simp only [if_neg c1, ite_self]
  have hy2 : 0 ≤ y ∧ y ≤ 299 := by omega
  have hl2 : l.toNat < 2 := by omega
  have hq := q_sim hI hA hS hO hl2 hy2
  have hM := md_ok (l := l.toNat) hS hO (y + 1).toNat (by omega)
  have hC := (st_CR (j := 0) hI hA hl2).wf hM.2.2.2
  obtain ⟨o1, o2, o3⟩ := rank_sim hC hq
  have h8 := hC.2.2.2.1
  have i1 := rkL_ok (y := y) hM.1 ((mdS S l.toNat (y + 1).toNat) 29 0).toNat
  have i2 := orM_rg (l := l.toNat) (y := y) i1.1
  have i3 : InvS kC (deadS (bk (stM m 0 0 l.toNat) (2 + 0)) (qS m l.toNat y)) := deadL_inv (qS_inv hI (by omega)).1 _
  have hI3 : Inv (stM m 0 0 l.toNat) := hI.stM
  have n8 := n8_of (b := 2 + 0) hI3
  refine ⟨hI3.wrC (i3.set (fun x => ordL_rg (fun x => i3 17 x rfl) _ n8 x)), fun k j i h => (wrC_core h).trans (stM_core h), ?_, InvS.set (k := 47) i1.1 (fun x => i2.2 x), ?_⟩
  · by_cases c2 : i < ((ordS (bk (stM m 0 0 l.toNat) (2 + 0)) (lw (stM m 0 0 l.toNat) (16 + 0)) (deadS (bk (stM m 0 0 l.toNat) (2 + 0)) (qS m l.toNat y))).1 : Int)
    · have c3 : i < ((orM (rkS (mdS S l.toNat (y + 1).toNat) y) l.toNat y).1 : Int) := by rw [← o1]; exact c2
      rw [if_pos ⟨c2, by omega⟩, if_pos c3, setT_k]
      exact o3 i.toNat (by omega)
    · have c3 : ¬ i < ((orM (rkS (mdS S l.toNat (y + 1).toNat) y) l.toNat y).1 : Int) := by rw [← o1]; exact c2
      rw [if_neg (fun h => c2 h.1), if_neg c3]
  · exact hM.2.2.2.wg.tr (i1.2.wg.tr ⟨fun k h1 h2 h3 => setT_d (by omega), fun x hx => by rw [setT_d (by omega)]; rfl⟩)
/-- the course ahead of a day's payments -/
theorem ah_sim {β L S T0 : PS} {l : Nat} {t : Int} (ht : 0 ≤ t ∧ t ≤ 299) (hC : CR β L S l) (hR : PyR β) (h13 : β 13 0 ≤ 12) (hS : InvS kM S) (hO : mOK S) (hT : InvS kC T0) (hw : ∀ d, 0 ≤ β 0 d ∧ β 0 d ≤ 9999) (h1 : ∀ d, 0 ≤ β 1 d) : DR β (runToS β (gbS β L (stS β T0) (t - 1)) t) (rnS (mdS S l t.toNat) t) t := by
  by_cases c : t = 0
  · subst c
    have b := beg_sim hC hT hw h1
    have e2 : stS β T0 10 2 = 0 := b.1
    have hno : nextS β (stS β T0) (0 - 1) = -1 := next_no (fun q hq hr => by
      have := (hR q hq).1
      omega)
    have e : gbL β L (0 - 1) 12 (stS β T0) = stS β T0 := by rw [gbL, hno, if_neg (by omega)]
    unfold gbS
    have e3 : runToS β (stS β T0) (0 - 1) = stS β T0 := runToS_id (by omega)
    rw [e, e3, runToS_id (by omega)]
    exact b
  · have g := gb_sim (l := l) (t := t - 1) (by omega) hC hR h13 hS hO hT hw h1
    rw [show (t - 1 + 1).toNat = t.toNat by omega] at g
    have e2 := g.1
    obtain ⟨o1, o2, o3, o4⟩ := md_ok (l := l) hS hO t.toNat (by omega)
    have r := run_step (T := gbS β L (stS β T0) (t - 1)) (y := t - 1) (hC.wf o4) (by omega) (by rw [runToS_id (by omega)]; exact g)
    rw [show t - 1 + 1 = t by omega] at r
    exact r
theorem st_hy {m : Mem} {j ln : Nat} (hI : Inv m) : PyR (bk (stM m j 0 ln) (2 + j)) ∧ bk (stM m j 0 ln) (2 + j) 13 0 ≤ 12 ∧ InvS kC (fun k => stM m j 0 ln k j 0) ∧ (∀ d, 0 ≤ bk (stM m j 0 ln) (2 + j) 0 d ∧ bk (stM m j 0 ln) (2 + j) 0 d ≤ 9999) ∧ ∀ d, 0 ≤ bk (stM m j 0 ln) (2 + j) 1 d := by
  have hI3 : Inv (stM m j 0 ln) := hI.stM
  refine ⟨fun p _ => ⟨hI3 7 (2 + j) p 0, hI3 7 (2 + j) p 2, hI3 7 (2 + j) p 3⟩, ?_, hI3.S kC j, fun d => hI3 5 (2 + j) d 0, fun d => ?_⟩
  · have : 0 ≤ stM m j 0 ln 1 (2 + j) 0 3 ∧ stM m j 0 ln 1 (2 + j) 0 3 ≤ 12 := hI3 1 (2 + j) 0 3
    exact this.2
  · have : 0 ≤ stM m j 0 ln 5 (2 + j) d 1 ∧ stM m j 0 ln 5 (2 + j) d 1 ≤ 299 := hI3 5 (2 + j) d 1
    exact this.1
theorem s_dead : Sim_dead := by
  intro l d y hl hd hy
  refine simQ fun m S hI hA hS hO => ?_
  have e0 : m 1 0 0 1 = S 29 0 := hA.1.1
  unfold deadR deadM ndeadR ndeadS
  rw [e0]
  by_cases c1 : ¬ ((0 ≤ l ∧ l ≤ 1) ∧ (0 ≤ d ∧ d ≤ S 29 0 - 1) ∧ (0 ≤ y ∧ y ≤ 299))
  · simp only [if_pos c1]; exact ⟨hI, Core.rf, trivial, hS, WG.rf⟩
  simp only [if_neg c1, ite_self]
  have hy2 : 0 ≤ y ∧ y ≤ 299 := by omega
  have hl2 : l.toNat < 2 := by omega
  have hC0 := st_CR (j := 0) hI hA hl2
  obtain ⟨z1, z2, z3, z4, z5⟩ := st_hy (j := 0) (ln := l.toNat) hI
  have hq := ah_sim hy2 hC0 z1 z2 hS hO z3 z4 z5
  have hM := md_ok (l := l.toNat) hS hO y.toNat (by omega)
  have hr := rnS_cm (y := y) hM.1 (hO.wf hM.2.2.2) (by rw [show (y - 1).toNat = ((y.toNat : Int) - 1).toNat by omega]; exact hM.2.1) (by have := hM.2.2.1; rw [show ((y.toNat : Nat) : Int) = y by omega] at this; exact this) hy2
  have hW : WF S (rnS (mdS S l.toNat y.toNat) y) := hM.2.2.2.tr rnS_wf
  have hn : bk (stM m 0 0 l.toNat) (2 + 0) 12 0 = S 29 0 := hC0.1.1
  have i1 := gbm_inv (b := 2 + 0) (q := 16 + 0) (tg := y - 1) (Inv.stM hI) (st_inv (ln := l.toNat) (j := 0) (b0 := 0) hI).1 (st_inv hI).2 (by omega)
  have i2 := runToS_inv (tg := y) i1.1 (rt_of (Inv.stM hI) _) i1.2 (by omega)
  have hI3 : Inv (stM m 0 0 l.toNat) := hI.stM
  refine ⟨hI3.wrC (deadL_inv i2.1 _), fun k j i h => (wrC_core h).trans (stM_core h), ?_, hr.1, hW.wg⟩
  unfold deadS
  rw [deadL_at _ d.toNat (by omega), dead_eq (hC0.wf hW) hq (by omega)]
  by_cases c : dyM (rnS (mdS S l.toNat y.toNat) y) d.toNat y
  · rw [bZ_t c, if_pos c, if_neg (by omega)]
  · rw [bZ_f c, if_neg c, if_pos rfl]
