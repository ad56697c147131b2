/-- the course stands on the same book and law as the model -/
theorem st_CR {m : Mem} {S : PS} {j ln : Nat} (hI : Inv m) (hA : RlA m S) (hln : ln < 2) : CR (bk (stM m j 0 ln) (2 + j)) (lw (stM m j 0 ln) (16 + j)) S ln := by
  have eb : bk (stM m j 0 ln) (2 + j) = bk (cpBk m (2 + j) 0) (2 + j) := by
    unfold stM
    exact bk_congr (funext fun i => cpLaw_o (by omega)) (funext fun i => cpLaw_o (by omega)) (funext fun i => cpLaw_o (by omega)) (funext fun i => cpLaw_o (by omega))
  have hI2 : Inv (cpBk m (2 + j) 0) := hI.cpBk
  have h8 : 0 ≤ m 8 ln 0 1 ∧ m 8 ln 0 1 ≤ 10 := hI 8 ln 0 1
  have hL := hA.2.1 ln hln
  have e8 : m 8 ln 0 1 = S 37 ln := hL.1
  have hI3 : Inv (stM m j 0 ln) := hI.stM
  rw [eb]
  refine ⟨hA.1.e (cpBk_bk (by omega)) BkE.rf, ?_, fun d _ => ⟨hI2 6 (2 + j) d 0, (show 0 ≤ cpBk m (2 + j) 0 6 (2 + j) d 4 ∧ _ ≤ _ from hI2 6 (2 + j) d 4).1⟩, hI2 1 (2 + j) 0 1, (show 0 ≤ stM m j 0 ln 8 (16 + j) 0 1 ∧ _ ≤ _ from hI3 8 (16 + j) 0 1).2⟩
  have e1 : lw (cpBk m (2 + j) 0) (2 * 0 + ln) = lw m ln := by
    rw [show 2 * 0 + ln = ln by omega]
    exact lw_congr (funext fun i => cpBk_o (by omega) (by omega)) (funext fun i => cpBk_o (by omega) (by omega))
  have e2 := cpLaw_lw (m := cpBk m (2 + j) 0) (q := 16 + j) (q0 := 2 * 0 + ln) (by omega)
  rw [e1] at e2
  exact hL.e e2 rfl (by omega) (fun k _ => rfl)
