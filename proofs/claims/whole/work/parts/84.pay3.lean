/-- with groups -/
theorem pay_gr {β L : PS} {l n : Nat} {y : Int} (hy : 0 ≤ y) (hyes : hasB L 112) (T0 S : PS) (hGS : GR β T0 S y) (hCS : CR β L S l) (hE : ∀ k, k < n → ∃ e : Nat, T0 17 k = e ∧ S 47 k = e ∧ (e : Int) < β 12 0 ∧ 0 < S 39 e + S 40 e) (hd : ∀ i j, i < n → j < n → i ≠ j → T0 17 i ≠ T0 17 j) (G : Nat → Int) (hGr : ∀ k, k < n → G k = if 0 < k ∧ cmM S l y (S 47 (k - 1)).toNat (S 47 k).toNat = 0 then G (k - 1) else k) : ∀ (c fr : Nat) (T D : PS) (o : Int) (F : Nat), n - fr ≤ c → fr ≤ n → (fr < n → G fr = fr) → CR β L D l → GR β T D y → T 17 = T0 17 → D 47 = S 47 → D 49 = G → (∀ k, fr ≤ k → k < n → ∀ q, T q (T0 17 k).toNat = T0 q (T0 17 k).toNat) → D 29 15 = o → 0 ≤ o → n - fr ≤ F → GR β (dsL β L n F fr T o).1 (pmL l y n (n - fr) fr D) y ∧ pmL l y n (n - fr) fr D 29 15 = (dsL β L n F fr T o).2 ∧ WF D (pmL l y n (n - fr) fr D)
  | 0, fr, T, D, o, F, hc, hfr, hL, hC, hG, h17, h47, h49, hU, ho, h0, hF => by
    rw [dsL_0 (Or.inr (by omega)), show n - fr = 0 by omega]
    exact ⟨hG, ho, WF.rf⟩
  | c + 1, fr, T, D, o, F, hc, hfr, hL, hC, hG, h17, h47, h49, hU, ho, h0, hF => by
    by_cases hlt : fr < n
    · have hb : hasB L 112 ↔ hasM D l 112 := hC.bit (c := 112) (by omega) (by omega)
      have hL1 := hL hlt
      obtain ⟨s1, s2, s3, s4⟩ := geL_spec (g := D 49) (n := n) (k := fr) (n - (fr + 1)) (fr + 1) rfl (by omega)
      have p1 : pm1 l y n fr D = ppS D l fr (geL (D 49) n fr (n - (fr + 1)) (fr + 1)) y := by
        unfold pm1
        rw [if_pos (hb.mp hyes), if_pos (by rw [h49]; exact hL1)]
      have hcmp : ∀ e, fr < e → e < n → (cmpS β L T (T 17 fr).toNat (T 17 e).toNat = 0 ↔ cmM S l y (S 47 fr).toNat (S 47 e).toNat = 0) := fun e h1 h2 => by
        obtain ⟨a, a1, a2, a3, a4⟩ := hE fr hlt
        obtain ⟨b, b1, b2, b3, b4⟩ := hE e h2
        have ua := hU fr (Nat.le_refl fr) hlt
        have ub := hU e (by omega) h2
        rw [h17, a1, a2, b1, b2, Int.toNat_natCast, Int.toNat_natCast]
        rw [a1, Int.toNat_natCast] at ua
        rw [b1, Int.toNat_natCast] at ub
        rw [cmpS_cg (T0 := T0) (by rw [hG.1.1, hGS.1.1]) ⟨ua 11, ua 12⟩ ⟨ub 11, ub 12⟩, cmp_eq hCS hGS.1 a3 b3 a4 b4]
      have hge := ge_gr (β := β) (L := L) (T := T) (D := D) (S := S) (l := l) (fr := fr) (n := n) (y := y) hyes hlt (by rw [h49]; exact hGr) (by rw [h49]; exact hL1) hcmp (n - (fr + 1)) n (fr + 1) (by omega) (by omega) rfl (by omega) (by rw [show fr + 1 - 1 = fr by omega, h49]; exact hL1) (by rw [show fr + 1 - 1 = fr by omega]; exact cmM_rf)
      rw [h49] at s1 s2 s3 s4 p1 hge
      generalize geL G n fr (n - (fr + 1)) (fr + 1) = g at s1 s2 s3 s4 p1 hge
      have hP : GP β T D y fr (g - fr) := fun k hk => by
        obtain ⟨e, e1, e2, e3, e4⟩ := hE (fr + k) (by omega)
        exact ⟨e, by rw [h17]; exact e1, by rw [h47]; exact e2, e3, (op_since hGS.1 e3 e4).1⟩
      obtain ⟨q1, q2, q3, q4, q5, q6⟩ := share_sim (en' := g) hy h0 ho hC hP (fun i j hi hj hij => by rw [h17]; exact hd _ _ (by omega) (by omega) (by omega)) hG
      have hskip : pmL l y n (n - (fr + 1)) (fr + 1) (ppS D l fr g y) = pmL l y n (n - g) g (ppS D l fr g y) := pm_skip (((hC.wf q4).bit (c := 112) (by omega) (by omega)).mp hyes) (g - (fr + 1)) (fr + 1) g rfl s1 s2 (fun k h1 h2 => by rw [q6, h49, s3 k h1 h2]; omega)
      have hpm : pmL l y n (n - fr) fr D = pmL l y n (n - g) g (ppS D l fr g y) := by
        rw [← hskip, show n - fr = (n - (fr + 1)) + 1 by omega]
        show pmL l y n (n - (fr + 1)) (fr + 1) (pm1 l y n fr D) = _
        rw [p1]
      have hlead : g < n → G g = g := fun hgn => by
        have k1 := hGr g hgn
        have k2 : G (g - 1) = fr := by
          by_cases e : g - 1 = fr
          · rw [e]; exact hL1
          · exact s3 (g - 1) (by omega) (by omega)
        by_cases c2 : 0 < g ∧ cmM S l y (S 47 (g - 1)).toNat (S 47 g).toNat = 0
        · rw [if_pos c2, k2] at k1
          exact absurd k1 (s4 hgn)
        · rw [if_neg c2] at k1
          exact k1
      rw [hpm]
      have hU2 : ∀ k, g ≤ k → k < n → ∀ q, (shareS L T fr g o).1 q (T0 17 k).toNat = T0 q (T0 17 k).toNat := fun k h1 h2 q => by
        rw [share_x (fun i hi => by
          obtain ⟨a, a1, -⟩ := hE (fr + i) (by omega)
          obtain ⟨b, b1, -⟩ := hE k h2
          have := hd (fr + i) k (by omega) h2 (by omega)
          rw [h17]
          omega)]
        exact hU k (by omega) h2 q
      by_cases co : 0 < o
      · obtain ⟨F', rfl⟩ : ∃ F', F = F' + 1 := ⟨F - 1, by omega⟩
        have d1 : dsL β L n (F' + 1) fr T o = dsL β L n F' g (shareS L T fr g o).1 (shareS L T fr g o).2 := by
          rw [dsL, if_pos ⟨hlt, co⟩, ← hge]
        rw [d1]
        obtain ⟨i1, i2, i3⟩ := pay_gr hy hyes T0 S hGS hCS hE hd G hGr c g (shareS L T fr g o).1 (ppS D l fr g y) (shareS L T fr g o).2 F' (by omega) s2 hlead (hC.wf q4) q1 (share_17.1.trans h17) (q5.trans h47) (q6.trans h49) hU2 q2 q3 (by omega)
        exact ⟨i1, i2, q4.tr i3⟩
      · have o0 : o = 0 := by omega
        subst o0
        rw [share_0] at q1 q2 hU2
        obtain ⟨i1, i2, i3⟩ := pay_gr hy hyes T0 S hGS hCS hE hd G hGr c g T (ppS D l fr g y) 0 F (by omega) s2 hlead (hC.wf q4) q1 h17 (q5.trans h47) (q6.trans h49) hU2 q2 (Int.le_refl 0) (by omega)
        rw [dsL_0 (Or.inl (Int.le_refl 0))] at i1 i2 ⊢
        exact ⟨i1, i2, q4.tr i3⟩
    · rw [dsL_0 (Or.inr (by omega)), show n - fr = 0 by omega]
      exact ⟨hG, ho, WF.rf⟩
