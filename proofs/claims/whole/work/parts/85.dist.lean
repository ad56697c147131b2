theorem GR.t {β T T' D : PS} {y : Int} (h : GR β T D y) (hT : ∀ k, k ≠ 17 → k ≠ 14 → T' k = T k) : GR β T' D y := by
  refine ⟨h.1.c (by rw [hT 10 (by omega) (by omega)]) (fun k hk => hT k (by omega) (by omega)) (fun _ _ => rfl), fun d hd => ?_⟩
  rw [hT 16 (by omega) (by omega), hT 18 (by omega) (by omega), hT 19 (by omega) (by omega)]
  exact h.2 d hd
/-- what is over after the chosen debt goes to the debts in their order -/
theorem rest_sim {β L T D : PS} {l : Nat} {y o : Int} (hy : 0 ≤ y) (hC : CR β L D l) (hG : GR β T D y) (ho : D 29 15 = o) (h0 : 0 ≤ o) : GR β (dsL β L (ordS β L T).1 (ordS β L T).1 0 (setT T 17 (ordS β L T).2) o).1 (pa4 D l y) y ∧ pa4 D l y 29 15 = (dsL β L (ordS β L T).1 (ordS β L T).1 0 (setT T 17 (ordS β L T).2) o).2 ∧ WF D (pa4 D l y) := by
  obtain ⟨n1, n2, n3, n4⟩ := ord_sim hC hG
  unfold pa4 pa5
  rw [← n1]
  have hW0 : WF D (setT D 47 (orM D l y).2) := WF.rf.set (by omega)
  have hk0 : ∀ k, k ≠ 47 → setT D 47 (orM D l y).2 k = D k := fun k hk => setT_d hk
  have h47 : setT D 47 (orM D l y).2 47 = (orM D l y).2 := setT_k
  generalize setT D 47 (orM D l y).2 = S at hW0 hk0 h47
  have hCS : CR β L S l := hC.wf hW0
  have hGS : GR β (setT T 17 (ordS β L T).2) S y := (hG.t (T' := setT T 17 (ordS β L T).2) (fun k h1 _ => setT_d h1)).c (fun k h1 h2 => hk0 k (by omega))
  have h17 : setT T 17 (ordS β L T).2 17 = (ordS β L T).2 := setT_k
  have hE : ∀ k, k < (ordS β L T).1 → ∃ e : Nat, (setT T 17 (ordS β L T).2) 17 k = e ∧ S 47 k = e ∧ (e : Int) < β 12 0 ∧ 0 < S 39 e + S 40 e := fun k hk => by
    obtain ⟨a1, e, a2, a3, a4⟩ := n3 k hk
    rw [h17, h47, hk0 39 (by omega), hk0 40 (by omega)]
    exact ⟨e, a2, by rw [← a1]; exact a2, a3, a4⟩
  have gk : ∀ k, k ≠ 49 → gpL S l y (ordS β L T).1 k = S k := fun k hk => gpL_k hk _
  have hWg : WF S (gpL S l y (ordS β L T).1) := ⟨fun k h1 h2 => gk k (by omega), fun x _ => by rw [gk 29 (by omega)]⟩
  have hg15 : gpL S l y (ordS β L T).1 29 15 = o := by rw [gk 29 (by omega), hk0 29 (by omega)]; exact ho
  have hGg : GR β (setT T 17 (ordS β L T).2) (gpL S l y (ordS β L T).1) y := hGS.c (fun k h1 h2 => gk k (by omega))
  by_cases c : hasB L 112
  · have := pay_gr hy c (setT T 17 (ordS β L T).2) S hGS hCS hE (by rw [h17]; exact n4) (gpL S l y (ordS β L T).1 49) (fun k hk => gpL_at hk) (ordS β L T).1 0 (setT T 17 (ordS β L T).2) (gpL S l y (ordS β L T).1) o (ordS β L T).1 (by omega) (by omega) (fun h => by rw [gpL_at h, if_neg (by omega)]) (hCS.wf hWg) hGg rfl (gk 47 (by omega)) rfl (fun _ _ _ _ => rfl) hg15 h0 (by omega)
    rw [Nat.sub_zero] at this
    exact ⟨this.1, this.2.1, hW0.tr (hWg.tr this.2.2)⟩
  · have := pay_no (n := (ordS β L T).1) hy c (setT T 17 (ordS β L T).2) (ordS β L T).1 0 (setT T 17 (ordS β L T).2) (gpL S l y (ordS β L T).1) o (ordS β L T).1 (by omega) (by omega) (hCS.wf hWg) hGg rfl (fun k hk => by
      obtain ⟨e, e1, e2, e3, e4⟩ := hE k hk
      exact ⟨e, e1, by rw [gk 47 (by omega)]; exact e2, e3, (op_since hGS.1 e3 e4).1⟩) hg15 h0 (by omega)
    exact ⟨this.1, this.2.1, hW0.tr (hWg.tr this.2.2)⟩
