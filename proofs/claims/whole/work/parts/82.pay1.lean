theorem dsL_0 {β L T : PS} {n F fr : Nat} {o : Int} (h : o ≤ 0 ∨ n ≤ fr) : dsL β L n F fr T o = (T, o) := by
  cases F with
  | zero => rfl
  | succ F => unfold dsL; rw [if_neg (by omega)]
theorem grE_no {β L T : PS} {n fr f e : Nat} (h : ¬ hasB L 112) : grE β L T n fr f e = e := by
  cases f with
  | zero => rfl
  | succ f => unfold grE; rw [if_neg (fun g => h g.1)]
theorem paT_15 {D : PS} {l d : Nat} {y : Int} : paT D l d y 29 15 = D 29 15 - ntR D l d (D 29 15) := upT_self
theorem paT_k {D : PS} {l d : Nat} {y : Int} {k : Nat} (h : k ≠ 29) : paT D l d y k = ntS D l d (D 29 15) y k := upT_kk h
theorem paT_wf {D : PS} {l d : Nat} {y : Int} : WF D (paT D l d y) := nt_wf.over
/-- without groups: each debt in turn -/
theorem pay_no {β L : PS} {l n : Nat} {y : Int} (hy : 0 ≤ y) (hno : ¬ hasB L 112) (T0 : PS) : ∀ (f fr : Nat) (T D : PS) (o : Int) (F : Nat), f = n - fr → fr ≤ n → CR β L D l → GR β T D y → T 17 = T0 17 → (∀ k, k < n → ∃ e : Nat, T0 17 k = e ∧ D 47 k = e ∧ (e : Int) < β 12 0 ∧ β 1 e ≤ y) → D 29 15 = o → 0 ≤ o → n - fr ≤ F → GR β (dsL β L n F fr T o).1 (pmL l y n f fr D) y ∧ pmL l y n f fr D 29 15 = (dsL β L n F fr T o).2 ∧ WF D (pmL l y n f fr D)
  | 0, fr, T, D, o, F, hf, hfr, hC, hG, h17, hE, ho, h0, hF => by
    rw [dsL_0 (Or.inr (by omega))]
    exact ⟨hG, ho, WF.rf⟩
  | f + 1, fr, T, D, o, F, hf, hfr, hC, hG, h17, hE, ho, h0, hF => by
    obtain ⟨e, e1, e2, e3, e4⟩ := hE fr (by omega)
    have hb : hasB L 112 ↔ hasM D l 112 := hC.bit (c := 112) (by omega) (by omega)
    have p1 : pm1 l y n fr D = paT D l e y := by
      unfold pm1
      rw [if_neg (fun g => hno (hb.mpr g)), e2, Int.toNat_natCast]
    obtain ⟨g1, g2⟩ := give_sim (d := e) (a := o) hC hG e3 e4 h0 hy
    have hG2 : GR β (giveS L T e o) (paT D l e y) y := g1.c (fun k h1 h2 => by rw [paT_k (by omega), ho])
    have h15 : paT D l e y 29 15 = o - giveR T e o := by rw [paT_15, ho, g2]
    have b := giveR_le (T := T) (d := e) h0
    have hE2 : ∀ k, k < n → ∃ e' : Nat, T0 17 k = e' ∧ paT D l e y 47 k = e' ∧ (e' : Int) < β 12 0 ∧ β 1 e' ≤ y := fun k hk => by
      rw [paT_k (by omega), nt_k (by omega)]
      exact hE k hk
    unfold pmL
    rw [p1]
    by_cases c : 0 < o
    · obtain ⟨F', rfl⟩ : ∃ F', F = F' + 1 := ⟨F - 1, by omega⟩
      have hT := hG.1.2 e e3
      have s1 : shareS L T fr (fr + 1) o = (giveS L T e o, o - giveR T e o) := by
        have := share_one (L := L) (T := T) (fr := fr) (o := o) h0 (by rw [h17, e1, Int.toNat_natCast]; omega) (by rw [h17, e1, Int.toNat_natCast]; omega)
        rw [h17, e1, Int.toNat_natCast] at this
        exact this
      have d1 : dsL β L n (F' + 1) fr T o = dsL β L n F' (fr + 1) (giveS L T e o) (o - giveR T e o) := by
        rw [dsL, if_pos ⟨by omega, c⟩, grE_no hno, s1]
      rw [d1]
      obtain ⟨i1, i2, i3⟩ := pay_no hy hno T0 f (fr + 1) (giveS L T e o) (paT D l e y) (o - giveR T e o) F' (by omega) (by omega) (hC.wf paT_wf) hG2 ((give_k (by omega)).trans h17) hE2 h15 (by omega) (by omega)
      exact ⟨i1, i2, paT_wf.tr i3⟩
    · have z := give_0 (L := L) (T := T) (d := e) (a := o) (by omega)
      rw [z.1] at hG2
      rw [z.2, Int.sub_zero] at h15
      obtain ⟨i1, i2, i3⟩ := pay_no hy hno T0 f (fr + 1) T (paT D l e y) o F (by omega) (by omega) (hC.wf paT_wf) hG2 h17 hE2 h15 h0 (by omega)
      rw [dsL_0 (Or.inl (by omega))] at i1 i2 ⊢
      exact ⟨i1, i2, paT_wf.tr i3⟩
