/-- the rest of a day's payments, of the days: the model's future -/
noncomputable def finP (l : Nat) (y : Int) : Nat → Nat → PS → PS
  | 0, _, D => D
  | k + 1, p, D => finP l y k (p + 1) (if D 33 (4 * p) = y then ppy D l p y else D)
theorem finP_gd {l : Nat} {y : Int} {D : PS} : ∀ k p, finP l y k p (gdL l y D p) = gdL l y D (p + k)
  | 0, p => rfl
  | k + 1, p => by
    rw [finP, show p + (k + 1) = p + 1 + k by omega, ← finP_gd k (p + 1)]
    rfl
noncomputable def goF (l P : Nat) : Nat → Nat → PS → PS
  | 0, _, D => D
  | k + 1, y, D => goF l P k (y + 1) (finP l ((y + 1 : Nat) : Int) P 0 (rnS D ((y + 1 : Nat) : Int)))
noncomputable def Ft (l P Y c : Nat) (D : PS) (y p : Nat) : Int := owM (goF l P (Y - y) y (finP l y (P - p) p D)) c
theorem gdS_fin {D : PS} {l P : Nat} {y : Int} (h : (D 29 2).toNat = P) : finP l y P 0 (rnS D y) = gdS D l y := by
  have e := finP_gd (l := l) (y := y) (D := rnS D y) P 0
  rw [Nat.zero_add] at e
  unfold gdS
  rw [h]
  exact e
theorem goF_md {S : PS} {l P : Nat} (hS : InvS kM S) (hO : mOK S) (hP : (S 29 2).toNat = P) : ∀ k y, y + 1 + k ≤ 300 → goF l P k y (mdS S l (y + 1)) = mdS S l (y + 1 + k)
  | 0, y, _ => rfl
  | k + 1, y, h => by
    have o := md_ok (l := l) hS hO (y + 1) (by omega)
    unfold goF
    rw [gdS_fin (by rw [o.2.2.2.2 2 (by omega)]; exact hP)]
    have e : gdS (mdS S l (y + 1)) l ((y + 1 : Nat) : Int) = mdS S l (y + 1 + 1) := rfl
    rw [e, goF_md hS hO hP k (y + 1) (by omega), show y + 1 + 1 + k = y + 1 + (k + 1) by omega]
/-- the whole future from the first day -/
theorem Ft_beg {S : PS} {l P Y c : Nat} (hS : InvS kM S) (hO : mOK S) (hP : (S 29 2).toNat = P) (hc : (S 29 0).toNat = c) (hY : Y ≤ 299) : Ft l P Y c (rnS (begS S) 0) 0 0 = owX S l Y := by
  have e1 : finP l ((0 : Nat) : Int) (P - 0) 0 (rnS (begS S) ((0 : Nat) : Int)) = mdS S l 1 := by
    have : (begS S 29 2).toNat = P := by have q : begS S 29 2 = S 29 2 := (begL_wf (S := S) 8).2 2 (by omega); rw [q]; exact hP
    rw [Nat.sub_zero, gdS_fin this]
    rfl
  unfold Ft owX
  have e2 := goF_md (l := l) hS hO hP Y 0 (by omega)
  rw [hc, show ((Y : Int) + 1).toNat = 0 + 1 + Y by omega, ← e2]
  rw [Nat.sub_zero]
  exact congrArg (fun z => owM (goF l P Y 0 z) c) e1
def MJ (D : PS) (y : Nat) : Prop := InvS kM D ∧ mOK D ∧ CM D y ∧ Z40 D ((y : Int) + 1)
theorem MJ.next {D : PS} {y : Nat} (h : MJ D y) (hy : y + 1 ≤ 299) : MJ (rnS D ((y + 1 : Nat) : Int)) (y + 1) := by
  obtain ⟨h1, h2, h3, h4⟩ := h
  have r := rnS_cm (y := ((y + 1 : Nat) : Int)) h1 h2 (by rw [show (((y + 1 : Nat) : Int) - 1).toNat = y by omega]; exact h3) (by rw [show ((y + 1 : Nat) : Int) = (y : Int) + 1 by omega]; exact h4) (by omega)
  refine ⟨r.1, h2.wf rnS_wf, ?_, ?_⟩
  · have := r.2
    rw [show (((y + 1 : Nat) : Int)).toNat = y + 1 by omega] at this
    exact this
  · exact rnS_z40 (by rw [show ((y + 1 : Nat) : Int) = (y : Int) + 1 by omega]; exact h4)
theorem MJ.take {D : PS} {l p y : Nat} (h : MJ D y) (hy : y ≤ 299) (hp' : (p : Int) < D 29 2) : MJ (ppy D l p y) y ∧ Dn D (ppy D l p y) := by
  obtain ⟨h1, h2, h3, h4⟩ := h
  obtain ⟨g1, g2⟩ := ppy_ok (l := l) (p := p) (y := (y : Int)) h1 h2 (by omega) hp'
  exact ⟨⟨g1, h2.wf g2.1, g2.cm h3, g2.z40 h4⟩, g2⟩
theorem MR.skip {β T D : PS} {y : Int} {p : Nat} (h : MR β T D y p) (hne : β 8 p ≠ y) : MR β T D y (p + 1) := by
  obtain ⟨m1, m2, m3, m4⟩ := h
  refine ⟨m1, m2, m3, fun q hq => ?_⟩
  rw [m4 q hq]
  by_cases e : q = p
  · subst e; omega
  · omega
/-- the model goes on to where the class's next payment comes -/
theorem adv {β L X T : PS} {l P Y c : Nat} (hY : Y ≤ 299) (hC : CR β L X l) (hP : β 13 0 = P) (hP2 : P ≤ 12) : ∀ (k : Nat) (D : PS) (y p : Nat), (Y - y) * 13 + (P - p) = k → y ≤ Y → p ≤ P → MR β T D y p → MJ D y → WF X D → (nextS β T Y = -1 ∧ ∃ D', MR β T D' Y P ∧ WF X D' ∧ owM D' c = Ft l P Y c D y p) ∨ ∃ (q : Nat) (yq : Nat) (D' : PS), nextS β T Y = q ∧ q < P ∧ RemP β T q ∧ β 8 q = yq ∧ yq ≤ Y ∧ MR β T D' yq q ∧ MJ D' yq ∧ WF X D' ∧ Ft l P Y c D' yq q = Ft l P Y c D y p := by
  intro k
  induction k using Nat.strongRecOn with
  | ind k ih =>
    intro D y p hk hy hpP hM hI hW
    have hCD : CR β L D l := hC.wf hW
    by_cases cp : p < P
    · have h8 : β 8 p = D 33 (4 * p) := hCD.1.2.2.2.1 p (by omega) 8 (by omega) (by omega)
      by_cases c8 : β 8 p = y
      · right
        have hrem := (hM.2.2.2 p (by omega)).mpr (Or.inr ⟨c8, Nat.le_refl p⟩)
        have hnx : nextS β T Y = p := next_is (by omega) hrem (by omega) (fun q hq2 hrq => by
          have := (hM.2.2.2 q hq2).mp hrq
          omega)
        exact ⟨p, y, D, hnx, cp, hrem, c8, hy, hM, hI, hW, rfl⟩
      · have e : Ft l P Y c D y p = Ft l P Y c D y (p + 1) := by
          unfold Ft
          rw [show P - p = (P - (p + 1)) + 1 by omega, finP, if_neg (by omega)]
        rw [e]
        exact ih _ (by omega) D y (p + 1) rfl hy (by omega) (hM.skip c8) hI hW
    · obtain rfl : p = P := by omega
      by_cases cy : y < Y
      · have hn := hM
        rw [show p = (β 13 0).toNat by omega] at hn
        have hN := hn.next hCD
        rw [show (y : Int) + 1 = ((y + 1 : Nat) : Int) by omega] at hN
        have e : Ft l p Y c D y p = Ft l p Y c (rnS D ((y + 1 : Nat) : Int)) (y + 1) 0 := by
          unfold Ft
          rw [show Y - y = (Y - (y + 1)) + 1 by omega, goF, Nat.sub_self, Nat.sub_zero]
          rfl
        rw [e]
        exact ih _ (by omega) (rnS D ((y + 1 : Nat) : Int)) (y + 1) 0 rfl (by omega) (by omega) hN (hI.next (by omega)) (hW.tr rnS_wf)
      · obtain rfl : y = Y := by omega
        left
        refine ⟨next_no (fun q hq hr => ?_), D, hM, hW, ?_⟩
        · have := (hM.2.2.2 q hq).mp hr
          omega
        · unfold Ft
          rw [Nat.sub_self, Nat.sub_self]
          rfl
/-- one payment, and the model's future behind it -/
theorem tk_sim {β L X T D : PS} {l P Y c q y : Nat} (hY : Y ≤ 299) (hy : y ≤ Y) (hC : CR β L X l) (hP : β 13 0 = P) (hR : PyR β) (hq : q < P) (h8 : β 8 q = y) (hM : MR β T D y q) (hI : MJ D y) (hW : WF X D) : MR β (takeS β L T q) (ppy D l q y) y (q + 1) ∧ MJ (ppy D l q y) y ∧ WF X (ppy D l q y) ∧ Ft l P Y c (ppy D l q y) y (q + 1) = Ft l P Y c D y q ∧ takeS β L T q 10 2 = y ∧ takeS β L T q 10 3 = q := by
  have hCD : CR β L D l := hC.wf hW
  obtain ⟨r8, r10, r11⟩ := hR q (by omega)
  obtain ⟨k1, k4, k5, k2, k3, k6⟩ := take_sim (by omega) hCD hM (by omega) h8 r10 r11 hI.1 hI.2.1
  have hn : β 13 0 = D 29 2 := hCD.1.2.1
  have h33 : β 8 q = D 33 (4 * q) := hCD.1.2.2.2.1 q (by omega) 8 (by omega) (by omega)
  obtain ⟨i1, i2⟩ := hI.take (l := l) (p := q) (by omega) (by omega)
  refine ⟨k1, i1, hW.tr k6, ?_, k2, k3⟩
  unfold Ft
  rw [show P - q = (P - (q + 1)) + 1 by omega, finP, if_pos (by omega)]
def NF (β X T : PS) (l P Y c : Nat) (o : Int) : Prop := ∃ (D : PS) (y p : Nat), y ≤ Y ∧ p ≤ P ∧ MR β T D y p ∧ MJ D y ∧ WF X D ∧ Ft l P Y c D y p = o
