theorem ZR.dn {β D D' : PS} (h : ZR β D) (g : Dn D D') : ZR β D' := fun d h1 h2 => by
  have a := h d h1 h2
  have b := g.2 d
  omega
/-- one payment -/
theorem take_sim {β L T D : PS} {l p : Nat} {y : Int} (hy : 0 ≤ y ∧ y ≤ 299) (hC : CR β L D l) (hM : MR β T D y p) (hq : (p : Int) < β 13 0) (h8 : β 8 p = y) (hw : -1 ≤ β 10 p ∧ β 10 p ≤ 7) (ha : -1 ≤ β 11 p ∧ β 11 p ≤ 7) (hS : InvS kM D) (hO : mOK D) : MR β (takeS β L T p) (ppy D l p y) y (p + 1) ∧ GR β (takeS β L T p) (ppy D l p y) y ∧ takeS β L T p 10 13 = ppy D l p y 29 15 ∧ takeS β L T p 10 2 = y ∧ takeS β L T p 10 3 = p ∧ WF D (ppy D l p y) := by
  obtain ⟨m1, m2, m3, m4⟩ := hM
  have hn : β 13 0 = D 29 2 := hC.1.2.1
  have f := hC.1.2.2.2.1 p hq
  have f9 : β 9 p = D 33 (4 * p + 1) := f 9 (by omega) (by omega)
  have f10 : β 10 p = D 33 (4 * p + 2) := f 10 (by omega) (by omega)
  have f11 : β 11 p = D 33 (4 * p + 3) := f 11 (by omega) (by omega)
  have f1 := hC.1.2.2.2.2.2 p hq
  have t0 : tak0 β T p = upT (runToS β T y) 10 3 p := by unfold tak0; rw [h8]
  have hD : DR β (tak0 β T p) D y := by
    rw [t0]
    exact m2.c (upT_x (by omega)) (fun k hk => upT_kk (by omega)) (fun _ _ => rfl)
  have t2 : tak0 β T p 10 2 = y := hD.1
  have t3 : tak0 β T p 10 3 = p := by rw [t0]; exact upT_self
  have hW := pa2_wf (D := D) (a := 10000 * D 33 (4 * p + 1)) (y := y)
  have k2 : ∀ k, 39 ≤ k → k ≤ 42 → pa2 D (10000 * D 33 (4 * p + 1)) y k = D k := fun k h1 h2 => pa2_k (by omega)
  have hch := ch_sim (l := l) (p := p) (hC.wf hW) (hD.c rfl (fun _ _ => rfl) (fun k hk => k2 k (by omega) (by omega))) (fun d h1 h2 => by rw [k2 39 (by omega) (by omega), k2 40 (by omega) (by omega)]; exact m3 d h1 h2) hw ha
  rw [f10, f11] at hch
  rw [k2 39 (by omega) (by omega), k2 40 (by omega) (by omega)] at hch
  obtain ⟨g1, g2, g3⟩ := dist_sim (L := L) (a := 10000 * D 33 (4 * p + 1)) (c := chS β L (tak0 β T p) p) (t := chM (pa2 D (10000 * D 33 (4 * p + 1)) y) l (D 33 (4 * p + 2)) (D 33 (4 * p + 3))) hy.1 (by omega) hC hD hch
  have e1 : takeS β L T p = upT (dist3 β L (tak0 β T p) (10000 * D 33 (4 * p + 1)) (chS β L (tak0 β T p) p)).1 10 13 (dist3 β L (tak0 β T p) (10000 * D 33 (4 * p + 1)) (chS β L (tak0 β T p) p)).2 := by
    unfold takeS distS
    rw [f9, Int.mul_comm]
  have d10 := dist3_10 (β := β) (L := L) (T := tak0 β T p) (a := 10000 * D 33 (4 * p + 1)) (c := chS β L (tak0 β T p) p)
  have hk : ∀ k, k ≠ 10 → takeS β L T p k = (dist3 β L (tak0 β T p) (10000 * D 33 (4 * p + 1)) (chS β L (tak0 β T p) p)).1 k := fun k hk => by rw [e1]; exact upT_kk hk
  have u2 : takeS β L T p 10 2 = y := by rw [e1, upT_x (by omega), d10]; exact t2
  have u3 : takeS β L T p 10 3 = p := by rw [e1, upT_x (by omega), d10]; exact t3
  have u13 : takeS β L T p 10 13 = ppy D l p y 29 15 := by rw [e1, upT_self]; exact g2.symm
  have hGR : GR β (takeS β L T p) (ppy D l p y) y := by
    refine ⟨g1.1.c (by rw [u2, d10, t2]) (fun k hk2 => hk k (by omega)) (fun _ _ => rfl), fun d hd => ?_⟩
    rw [hk 16 (by omega), hk 18 (by omega), hk 19 (by omega)]
    exact g1.2 d hd
  have hdn := (ppy_ok (l := l) (p := p) hS hO hy (by omega)).2
  refine ⟨⟨by omega, by rw [runToS_id (by omega)]; exact hGR.1, m3.dn hdn, fun q hq2 => ?_⟩, hGR, u13, u2, u3, g3⟩
  unfold RemP
  rw [u2, u3]
  omega
