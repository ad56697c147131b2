theorem LPp.fr {S : PS} {l n Y c : Nat} {β L T1 T2 : PS} {t0 : Nat → Int} {j : Nat} {D D1 : Mem} (h : LPp S l n Y c β L T1 T2 t0 j D) (hTF : TF D1 j) (fr : TFr (j + 1) (j + 3) D D1) (h22 : ∀ i, i < n → ¬ RemP β T1 i ∨ (Y : Int) < S 33 (4 * i) → D1 22 0 0 i = D 22 0 0 i) (hv : ∀ i, i < n → -1 ≤ D1 22 0 0 i ∧ D1 22 0 0 i < c) (h7 : ∀ b i x, n ≤ i ∨ x ≠ 2 → D1 7 b i x = D 7 b i x) : LPp S l n Y c β L T1 T2 t0 j D1 := by
  obtain ⟨d1, ⟨d2, d3⟩, d4, d5, d6, d7, d8, d9⟩ := h
  refine ⟨hTF, ⟨by rw [fr.2.2.2.2 5 (by omega) (by omega)]; exact d2, by rw [fr.2.2.2.2 6 (by omega) (by omega)]; exact d3⟩, d4.mem (fun k hk => fr.2.2.1 k (by omega) (by omega)) h7, fun i hi => ⟨(hv i hi).1, (hv i hi).2, fun hl => ?_⟩, by rw [bk_fr fr (by omega)]; exact d6, by rw [lw_fr fr]; exact d7, fun k hk => ?_, fun i hi hnr => ?_⟩
  · rw [h22 i hi (Or.inr hl)]
    exact (d5 i hi).2.2 hl
  · rw [fr.1 k j 0 hk (by omega)]
    exact d8 k hk
  · rw [h22 i hi (Or.inl hnr)]
    exact d9 i hi hnr
theorem loop_po {S : PS} {l n P Y c : Nat} {β L T1 T2 : PS} {t0 : Nat → Int} {j r nx yq : Nat} {Ws : (Nat → Int) → Prop} (hY : Y ≤ 299) (hP : S 29 2 = P) (hc : S 29 0 = c) (hc8 : c ≤ 8) (hP2 : P ≤ 12) (hn : n ≤ P) (hj : 2 ≤ j ∧ j ≤ 4) (hT2 : T2 = runToS β T1 yq) (hN : ∀ W, Ws W → NF (bW β n W) (SW S n W) T1 l P Y c (oW S l n Y W)) (hx : nextS β T1 Y = nx) (hxn : nx < n) (h8 : β 8 nx = yq) (ha : ∀ W, vd n c W → (∀ i, i < n → ¬ RemP β T1 i → W i = t0 i) → Ws W) (hb : ∀ W, Ws W → vd n c W ∧ ∀ i, i < n → ¬ RemP β T1 i → t0 i = W i ∨ t0 i = -1) (hr : cnP (RemP β T1) n ≤ r + 1) (K : Mem → Mem) (hK0 : ∀ m, TF m (j + 1) → Inv (K m) ∧ LO (K m) ∧ TFr (j + 1) (j + 4) m (K m)) (hK : ∀ m' Ws', TF m' (j + 1) → ND S l n P Y c m' (j + 1) r Ws' → PO S l n Y c (RemP (bk m' (2 + (j + 1))) (cs m' (j + 1))) m' (K m') Ws') : ∀ (f : Nat) (b : Int) (D : Mem), b + f = c → -1 ≤ b → LPp S l n Y c β L T1 T2 t0 j D → PO S l n Y c (RemP β T1) D (tfL K j nx f b D) (fun W => Ws W ∧ cov β L T2 nx W b)
  | 0, b, D, h1, h2, hD => by
    refine ⟨fun _ => False, fun W h => h.elim, fun W hW => ?_, fun V hV => ?_, fun i hi _ => rfl, fun i hi => ⟨(hD.2.2.2.1 i hi).1, (hD.2.2.2.1 i hi).2.1⟩, fun _ _ _ _ => rfl⟩
    · have := (hb W hW.1).1 nx hxn
      rcases hW.2 with ⟨_, g⟩ | ⟨_, g⟩ <;> omega
    · exact BSF.iff hV (fun W => ⟨fun h => h.resolve_right (fun z => z), Or.inl⟩)
  | f + 1, b, D, h1, h2, hD => by
    obtain ⟨x1, x2, x3⟩ := next_rem hx
    have hH : tfH D j b ↔ Hd β L T2 b := by
      obtain ⟨d1, -, -, -, d6, d7, d8, -⟩ := hD
      unfold tfH
      rw [d6, d7]
      have e10 : cs D j 10 = T2 10 := d8 10 rfl
      have e11 : cs D j 11 = T2 11 := d8 11 rfl
      have e12 : cs D j 12 = T2 12 := d8 12 rfl
      unfold Hd opS
      rw [e10, e11, e12]
    have hday : (β 8 nx : Int) = S 33 (4 * nx) := by
      obtain ⟨d1, -, d4, -, d6, d7, d8, -⟩ := hD
      have hcn := (d4.cnt (Nat.le_refl j) (by omega)).2
      rw [d6] at hcn
      have := d4.day (q := nx) (Nat.le_refl j) (by omega) (by omega)
      rw [d6] at this
      exact this
    unfold tfL
    by_cases c1 : tfH D j b
    · rw [if_pos c1]
      have hHd := hH.mp c1
      obtain ⟨n1, n2, n3⟩ := kid_nd (b := b) hY hP hc hc8 hP2 hn hj hT2 hN hx hxn h8 ha hb hr hD (by omega)
      obtain ⟨U1, u1, u2, u3, u4, u5, u6⟩ := hK _ _ n2 n1
      obtain ⟨k1, k2⟩ := tfK_ok (nx := nx) (b := b) hj (by omega) hK0 (by omega) hD.1
      have f22 : ∀ i, i < n → ¬ RemP β T1 i ∨ (Y : Int) < S 33 (4 * i) → K (tfS D j nx b) 22 0 0 i = D 22 0 0 i := fun i hi h => by
        have hne : i ≠ nx := fun e => by
          subst e
          rcases h with h | h
          · exact h x2
          · omega
        have g : ¬ RemP (bk (tfS D j nx b) (2 + (j + 1))) (cs (tfS D j nx b) (j + 1)) i ∨ (Y : Int) < S 33 (4 * i) := by
          rcases h with h | h
          · exact Or.inl (fun z => h ((n3 i hi).mp z).1)
          · exact Or.inr h
        rw [u4 i hi g, tfS_22, if_neg hne]
      have f7 : ∀ b' i x, n ≤ i ∨ x ≠ 2 → K (tfS D j nx b) 7 b' i x = D 7 b' i x := fun b' i x h => by
        rw [u6 b' i x h]
        exact tfS_7 (by omega)
      have hD1 : LPp S l n Y c β L T1 T2 t0 j (K (tfS D j nx b)) := hD.fr k1 k2 f22 u5 f7
      obtain ⟨U2, v1, v2, v3, v4, v5, v6⟩ := loop_po hY hP hc hc8 hP2 hn hj hT2 hN hx hxn h8 ha hb hr K hK0 hK f (b + 1) (K (tfS D j nx b)) (by omega) (by omega) hD1
      refine ⟨fun W => U1 W ∨ U2 W, fun W h => h.elim (u1 W) (v1 W), fun W hW => ?_, fun V hV => ?_, fun i hi h => (v4 i hi h).trans (f22 i hi h), v5, fun b' i x h => (v6 b' i x h).trans (f7 b' i x h)⟩
      · by_cases e : W nx = b ∨ (b = -1 ∧ ¬ Hd β L T2 (W nx))
        · obtain ⟨W', w1, w2, w3⟩ := u2 W ⟨hW.1, e⟩
          exact ⟨W', Or.inl w1, w2, w3⟩
        · have hcov : cov β L T2 nx W (b + 1) := by
            have e1 : ¬ W nx = b := fun h => e (Or.inl h)
            rcases hW.2 with ⟨g1, g2⟩ | ⟨g1, g2⟩
            · exact Or.inl ⟨g1, by omega⟩
            · exact absurd (Or.inr ⟨by omega, g1⟩) e
          obtain ⟨W', w1, w2, w3⟩ := v2 W ⟨hW.1, hcov⟩
          exact ⟨W', Or.inr w1, w2, w3⟩
      · have s1 := u3 V (hV.c tfS_20.1 tfS_20.2)
        exact (v3 _ s1).iff (fun W => ⟨fun h => by
          rcases h with h | h | h
          · exact Or.inl (Or.inl h)
          · exact Or.inl (Or.inr h)
          · exact Or.inr h, fun h => by
          rcases h with (h | h) | h
          · exact Or.inl h
          · exact Or.inr (Or.inl h)
          · exact Or.inr (Or.inr h)⟩)
    · rw [if_neg c1]
      have hHd : ¬ Hd β L T2 b := fun h => c1 (hH.mpr h)
      obtain ⟨U2, v1, v2, v3, v4, v5, v6⟩ := loop_po hY hP hc hc8 hP2 hn hj hT2 hN hx hxn h8 ha hb hr K hK0 hK f (b + 1) D (by omega) (by omega) hD
      refine ⟨U2, v1, fun W hW => ?_, v3, v4, v5, v6⟩
      refine v2 W ⟨hW.1, ?_⟩
      rcases hW.2 with ⟨g1, g2⟩ | ⟨g1, g2⟩
      · refine Or.inl ⟨g1, ?_⟩
        have : W nx ≠ b := fun e => hHd (by rw [← e]; exact g1)
        omega
      · exact absurd (Or.inl (show b = -1 by omega)) hHd
/-- behind the payments whose words aren't sought -/
theorem nd_at {S : PS} {l n P Y c : Nat} {m : Mem} {j r : Nat} {Ws : (Nat → Int) → Prop} (hI : Inv m) (hY : Y ≤ 299) (hP : S 29 2 = P) (hc8 : c ≤ 8) (hP2 : P ≤ 12) (hn : n ≤ P) (hj : j ≤ 5) (h : ND S l n P Y c m j r Ws) : ((∀ W, Ws W → NF (bW (bk m (2 + j)) n W) (SW S n W) (tfA m j) l P Y c (oW S l n Y W)) ∧ ∀ i, i < n → (RemP (bk m (2 + j)) (tfA m j) i ↔ RemP (bk m (2 + j)) (cs m j) i)) ∧ tfN m j < n ∧ tfN m j = nextS (bk m (2 + j)) (tfA m j) Y := by
  obtain ⟨⟨n1, n2⟩, n3, n4, n5, n6, n7, n8⟩ := h
  obtain ⟨c12, c13⟩ := n3.cnt (Nat.le_refl j) hj
  have hvt : vd n c (m 22 0 0) := fun i hi => ⟨(n4 i hi).1, (n4 i hi).2.1⟩
  have hWt : Ws (m 22 0 0) := n5 _ hvt (fun i _ _ => rfl)
  have hcn := cnP_le (RemP (bk m (2 + j)) (cs m j)) P
  have a := at_sim (β := bk m (2 + j)) (L := lw m (16 + j)) (S := S) (l := l) (c := c) (o := oW S l n Y) hY (c13.trans hP) hP2 hn (hy_of hI _).1 (n3 j (Nat.le_refl j) hj) (fun W hW i hi => by have := (n6 W hW).1 i hi; omega) _ hWt 12 (cs m j) (by omega) n7
  have et : tfA m j = atL (bk m (2 + j)) (lw m (16 + j)) n Y 12 (cs m j) := by
    unfold tfA
    rw [n1, n2]
  have en' : tfN m j = nextS (bk m (2 + j)) (tfA m j) Y := by
    unfold tfN
    rw [n2]
  rw [← et] at a
  exact ⟨⟨a.1, a.2.2⟩, by rw [en']; exact a.2.1, en'⟩
/-- the search of words -/
theorem tree_po {S : PS} {l n P Y c : Nat} (hY : Y ≤ 299) (hP : S 29 2 = P) (hc : S 29 0 = c) (hc8 : c ≤ 8) (hP2 : P ≤ 12) (hn : n ≤ P) (hn3 : n ≤ 3) : ∀ (r : Nat) (m : Mem) (Ws : (Nat → Int) → Prop), r ≤ 3 → TF m (5 - r) → ND S l n P Y c m (5 - r) r Ws → PO S l n Y c (RemP (bk m (2 + (5 - r))) (cs m (5 - r))) m (tfM r m) Ws
  | 0, m, Ws, hr, hT, h => by
    obtain ⟨a1, a2, a3⟩ := nd_at hT.1 hY hP hc8 hP2 hn (by omega) h
    refine leaf_po hY hP hc hP2 hn hn3 (by omega) h a1 ?_
    apply Classical.byContradiction
    intro hx
    obtain ⟨q, hq⟩ : ∃ q : Nat, tfN m (5 - 0) = q := ⟨(tfN m (5 - 0)).toNat, by omega⟩
    obtain ⟨x1, x2, x3⟩ := next_rem (a3.symm.trans hq)
    have hqn : q < n := by omega
    have := cnP_pos (P := RemP (bk m (2 + (5 - 0))) (cs m (5 - 0))) ((a1.2 q hqn).mp x2) hqn
    have := h.2.2.2.2.2.2
    omega
  | r + 1, m, Ws, hr, hT, h => by
    have e5 : 5 - (r + 1) = 4 - r := by omega
    rw [e5] at hT h ⊢
    obtain ⟨j, hj⟩ : ∃ j, j = 4 - r := ⟨_, rfl⟩
    have hM : tfM (r + 1) m = if tfN m j < 0 ∨ m 20 0 0 5 ≤ tfN m j then tfE m j else tfL (tfM r) j (tfN m j).toNat (m 1 (2 + j) 0 1 + 1).toNat (-1) (tfB m j) := by
      rw [hj]
      rfl
    rw [← hj] at hT h ⊢
    rw [hM]
    obtain ⟨a1, a2, a3⟩ := nd_at hT.1 hY hP hc8 hP2 hn (by omega) h
    by_cases c1 : tfN m j < 0 ∨ m 20 0 0 5 ≤ tfN m j
    · rw [if_pos c1]
      exact leaf_po hY hP hc hP2 hn hn3 (by omega) h a1 (by have := h.1.1; omega)
    · rw [if_neg c1]
      obtain ⟨⟨n1, n2⟩, n3, n4, n5, n6, n7, n8⟩ := h
      obtain ⟨c12, c13⟩ := n3.cnt (Nat.le_refl j) (by omega)
      obtain ⟨nx, hnx⟩ : ∃ q : Nat, tfN m j = q := ⟨(tfN m j).toNat, by omega⟩
      have hx := a3.symm.trans hnx
      obtain ⟨x1, x2, x3⟩ := next_rem hx
      have r8 := ((hy_of hT.1 (2 + j)).1 nx x1).1
      obtain ⟨yq, hyq⟩ : ∃ yq : Nat, bk m (2 + j) 8 nx = yq := ⟨(bk m (2 + j) 8 nx).toNat, by omega⟩
      have e12 : m 1 (2 + j) 0 1 = S 29 0 := c12
      rw [hnx, Int.toNat_natCast, e12, hc]
      obtain ⟨b1, b2⟩ := tfB_ok (b := j + 3) hT
      have eR : ∀ i, i < n → (RemP (bk m (2 + j)) (tfA m j) i ↔ RemP (bk m (2 + j)) (cs m j) i) := a1.2
      have eB : tfB m j = wrC m j (runToS (bk m (2 + j)) (tfA m j) yq) := by
        unfold tfB tfR
        rw [hnx, Int.toNat_natCast]
        have : m 7 (2 + j) nx 0 = yq := hyq
        rw [this]
      have b22 : tfB m j 22 0 0 = m 22 0 0 := by rw [eB]; exact wrC_d rfl
      have b20 : tfB m j 20 0 0 = m 20 0 0 := by rw [eB]; exact wrC_d rfl
      have b21 : tfB m j 21 0 0 = m 21 0 0 := by rw [eB]; exact wrC_d rfl
      have b7 : tfB m j 7 = m 7 := by funext b i; rw [eB]; exact wrC_d rfl
      have hD : LPp S l n Y c (bk m (2 + j)) (lw m (16 + j)) (tfA m j) (runToS (bk m (2 + j)) (tfA m j) yq) (m 22 0 0) j (tfB m j) := by
        refine ⟨b1, ⟨by rw [b20]; exact n1, by rw [b20]; exact n2⟩, n3.mem (fun k hk => b2.2.2.1 k (by omega) (by omega)) (fun x i s _ => by rw [b7]), fun i hi => by rw [b22]; exact n4 i hi, bk_fr b2 (by omega), lw_fr b2, fun k hk => by rw [eB]; exact wrC_cf hk, fun i hi _ => by rw [b22]⟩
      have cn : cnP (RemP (bk m (2 + j)) (tfA m j)) n ≤ r + 1 := Nat.le_trans (cnP_mo n (fun i hi h => (eR i hi).mp h)) n8
      have hjr : j + 1 = 5 - r := by omega
      obtain ⟨U, v1, v2, v3, v4, v5, v6⟩ := loop_po (r := r) hY hP hc hc8 hP2 hn (show 2 ≤ j ∧ j ≤ 4 by omega) rfl a1.1 hx (by omega) hyq (fun W hv hW => n5 W hv (fun i hi hnr => hW i hi (fun z => hnr ((eR i hi).mp z)))) (fun W hW => ⟨(n6 W hW).1, fun i hi hnr => (n6 W hW).2 i hi (fun z => hnr ((eR i hi).mpr z))⟩) cn (tfM r) (fun m hm => by
        rw [hjr] at hm ⊢
        have := tfM_ok r m (by omega) hm
        rw [show j + 4 = 8 - r by omega]
        exact this) (fun m' Ws' hm hn' => by
        rw [hjr] at hm hn' ⊢
        exact tree_po hY hP hc hc8 hP2 hn hn3 r m' Ws' (by omega) hm hn') ((c : Int) + 1).toNat (-1) (tfB m j) (by omega) (by omega) hD
      refine ⟨U, v1, fun W hW => v2 W ⟨hW, ?_⟩, fun V hV => v3 V (hV.c b20 b21), fun i hi hh => ?_, v5, fun b i x hh => by rw [v6 b i x hh, b7]⟩
      · have := (n6 W hW).1 nx (by omega)
        by_cases c2 : Hd (bk m (2 + j)) (lw m (16 + j)) (runToS (bk m (2 + j)) (tfA m j) yq) (W nx)
        · exact Or.inl ⟨c2, this.1⟩
        · exact Or.inr ⟨c2, by omega⟩
      · have g : ¬ RemP (bk m (2 + j)) (tfA m j) i ∨ (Y : Int) < S 33 (4 * i) := by
          rcases hh with hh | hh
          · exact Or.inl (fun z => hh ((eR i hi).mp z))
          · exact Or.inr hh
        rw [v4 i hi g, b22]
