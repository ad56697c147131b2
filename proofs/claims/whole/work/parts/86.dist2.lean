/-- a sum is put, class and model -/
theorem dist_sim {β L T D : PS} {l : Nat} {y a c t : Int} (hy : 0 ≤ y) (ha : 0 ≤ a) (hC : CR β L D l) (hD : DR β T D y) (hc : (c = -1 ∧ t = -4) ∨ ∃ d : Nat, (d : Int) < β 12 0 ∧ 0 < D 39 d + D 40 d ∧ c = d ∧ t = d) : GR β (dist3 β L T a c).1 (pa4 (pa3 (pa2 D a y) l y t) l y) y ∧ pa4 (pa3 (pa2 D a y) l y t) l y 29 15 = (dist3 β L T a c).2 ∧ WF D (pa4 (pa3 (pa2 D a y) l y t) l y) := by
  have hG0 : GR β (dist0 β T) (pa2 D a y) y := dist0_sim hC hD
  have hW0 : WF D (pa2 D a y) := pa2_wf
  have h15 : pa2 D a y 29 15 = a := upT_self
  have h1 : GR β (dist1 β L T a c).1 (pa3 (pa2 D a y) l y t) y ∧ pa3 (pa2 D a y) l y t 29 15 = (dist1 β L T a c).2 ∧ 0 ≤ (dist1 β L T a c).2 ∧ WF D (pa3 (pa2 D a y) l y t) := by
    rcases hc with ⟨rfl, rfl⟩ | ⟨d, d1, d2, rfl, rfl⟩
    · unfold dist1 pa3
      rw [if_pos rfl, if_neg (by omega)]
      exact ⟨hG0, h15, ha, hW0⟩
    · unfold dist1 pa3
      rw [if_neg (by omega), if_pos (by omega), Int.toNat_natCast]
      obtain ⟨g1, g2⟩ := give_sim (d := d) (a := a) (hC.wf hW0) hG0 d1 (op_since hD d1 d2).1 ha hy
      have b := giveR_le (T := dist0 β T) (d := d) ha
      refine ⟨g1.c (fun k k1 k2 => by rw [paT_k (by omega), h15]), ?_, ?_, hW0.tr paT_wf⟩
      · rw [paT_15, h15, ← g2]
      · show 0 ≤ a - giveR (dist0 β T) d a
        omega
  obtain ⟨g1, g2, g3, g4⟩ := h1
  obtain ⟨r1, r2, r3⟩ := rest_sim hy (hC.wf g4) g1 g2 g3
  unfold dist3 dist2
  by_cases co : 0 < (dist1 β L T a c).2
  · rw [if_pos co]
    exact ⟨r1, r2, g4.tr r3⟩
  · rw [if_neg co]
    rw [dsL_0 (Or.inl (by omega))] at r1 r2
    rw [dsL_0 (Or.inr (by omega))]
    refine ⟨r1.t (fun k k1 _ => ?_), r2, g4.tr r3⟩
    exact (setT_d k1).symm
