/-- the first day -/
theorem beg_sim {β L T S : PS} {l : Nat} (hC : CR β L S l) (hT : InvS kC T) (hw : ∀ d, 0 ≤ β 0 d ∧ β 0 d ≤ 9999) (h1 : ∀ d, 0 ≤ β 1 d) : DR β (stS β T) (rnS (begS S) 0) 0 := by
  have hCb : CR β L (begS S) l := hC.wf (begL_wf 8)
  have hn : β 12 0 = begS S 29 0 := hCb.1.1
  have h8 := hC.2.2.2.1
  have hI : InvS kC (upT (upT (upT T 10 2 0) 10 3 (-1)) 10 13 0) := InvS.up (InvS.up (InvS.up hT (show 0 ≤ (0 : Int) ∧ (0 : Int) ≤ 299 by omega)) (show -1 ≤ (-1 : Int) ∧ (-1 : Int) ≤ 11 by omega)) (by show True; trivial)
  have st := (stL_inv (β := β) hI hw (β 12 0).toNat).2
  have e10 : stS β T 10 2 = 0 := by
    unfold stS
    rw [stL_k (by omega), upT_x (by omega), upT_x (by omega), upT_self]
  refine ⟨e10, fun d hd => ?_⟩
  obtain ⟨a1, a2, a3, a4, a5⟩ := st d (by omega)
  obtain ⟨b1, b2, b3, b4⟩ := begL_at (S := S) 8 d (by omega)
  have f0 : β 0 d = begS S 31 (8 * d) := hCb.1.2.2.1 d hd 0 (by omega)
  have f1 : β 1 d = begS S 31 (8 * d + 1) := hCb.1.2.2.1 d hd 1 (by omega)
  have dn : d < (begS S 29 0).toNat := by omega
  have z := h1 d
  have w := hw d
  unfold rnS
  rw [rnL_at _ d dn, rnL_at _ d dn, rnL_at _ d dn, rnL_at _ d dn]
  have e11 : stS β T 11 d = β 0 d * 10000 := a1
  have e12 : stS β T 12 d = 0 := a2
  have e13 : stS β T 13 d = -1 := a3
  have e15 : stS β T 15 d = -1 := a5
  have c39 : begS S 39 d = 0 := b1
  have c40 : begS S 40 d = 0 := b2
  have c41 : begS S 41 d = -1 := b3
  have c42 : begS S 42 d = -4 := b4
  rw [e11, e12, e13, e15]
  by_cases c : begS S 31 (8 * d + 1) = 0
  · have r : rn1 (begS S) 0 d = upT (begS S) 39 d (10000 * begS S 31 (8 * d)) := by unfold rn1; rw [if_pos c]
    rw [r, upT_self, upT_k (by omega), upT_k (by omega), upT_k (by omega), c40, c41, c42, if_pos (by omega), if_pos rfl]
    exact ⟨by omega, rfl, fun h => by omega, rfl, rfl, by omega, by omega, by omega⟩
  · have r : rn1 (begS S) 0 d = begS S := by unfold rn1; rw [if_neg c, if_neg (by omega)]
    rw [r, c39, c40, c41, c42, if_neg (by omega), if_pos rfl]
    exact ⟨rfl, rfl, fun _ => ⟨rfl, rfl⟩, rfl, rfl, by omega, by omega, by omega⟩
