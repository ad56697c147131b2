/-- what of the payments is in its range -/
def PyR (β : PS) : Prop := ∀ p : Nat, (p : Int) < β 13 0 → (0 ≤ β 8 p ∧ β 8 p ≤ 299) ∧ (-1 ≤ β 10 p ∧ β 10 p ≤ 7) ∧ (-1 ≤ β 11 p ∧ β 11 p ≤ 7)
/-- the payments of a day -/
theorem pays_sim {β L D0 : PS} {l : Nat} {y t : Int} (hy : 0 ≤ y ∧ y ≤ 299) (hyt : y ≤ t) (hC : CR β L D0 l) (hR : PyR β) (hS : InvS kM D0) (hO : mOK D0) (f : Nat) (T : PS) (hf : cnP (RemP β T) (β 13 0).toNat ≤ f) (hM : MR β T D0 y 0) : ∀ p : Nat, p ≤ (β 13 0).toNat → ∃ (f' : Nat) (T' : PS), gbL β L t f T = gbL β L t f' T' ∧ cnP (RemP β T') (β 13 0).toNat ≤ f' ∧ MR β T' (gdL l y D0 p) y p
  | 0, _ => ⟨f, T, rfl, hf, hM⟩
  | p + 1, hq => by
    obtain ⟨f', T', i1, i2, i3⟩ := pays_sim hy hyt hC hR hS hO f T hf hM p (by omega)
    have hn : β 13 0 = D0 29 2 := hC.1.2.1
    obtain ⟨d1, d2⟩ := gdL_ok (l := l) hS hO hy p (by omega)
    have hC2 : CR β L (gdL l y D0 p) l := hC.wf d2.1
    have hp8 : β 8 p = gdL l y D0 p 33 (4 * p) := hC2.1.2.2.2.1 p (by omega) 8 (by omega) (by omega)
    obtain ⟨r8, r10, r11⟩ := hR p (by omega)
    unfold gdL
    by_cases c : β 8 p = y
    · rw [if_pos (by omega)]
      obtain ⟨k1, -, -, k2, k3, -⟩ := take_sim hy hC2 i3 (by omega) c r10 r11 d1 (hO.wf d2.1)
      have hrem := (i3.2.2.2 p (by omega)).mpr (Or.inr ⟨c, Nat.le_refl p⟩)
      have hnx : nextS β T' t = p := next_is (by omega) hrem (by omega) (fun q hq2 hrq => by
        have := (i3.2.2.2 q hq2).mp hrq
        omega)
      have hcn := cnP_lt (P := RemP β T') (Q := RemP β (takeS β L T' p)) (p := p) hrem (fun h => by
        unfold RemP at h
        rw [k2, k3] at h
        omega) (β 13 0).toNat (by omega) (fun q hq2 h => by
        have := (k1.2.2.2 q (by omega)).mp h
        exact (i3.2.2.2 q (by omega)).mpr (by omega))
      obtain ⟨f2, rfl⟩ : ∃ f2, f' = f2 + 1 := ⟨f' - 1, by omega⟩
      refine ⟨f2, takeS β L T' p, ?_, by omega, k1⟩
      rw [i1, gbL, hnx, if_pos (by omega), Int.toNat_natCast]
    · rw [if_neg (by omega)]
      obtain ⟨m1, m2, m3, m4⟩ := i3
      refine ⟨f', T', i1, i2, m1, m2, m3, fun q hq2 => ?_⟩
      rw [m4 q hq2]
      by_cases e : q = p
      · subst e; omega
      · omega
