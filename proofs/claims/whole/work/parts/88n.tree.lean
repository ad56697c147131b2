theorem sw_10 {A B : PS} : swS A B 10 2 = B 10 2 ∧ swS A B 10 3 = B 10 3 := by
  unfold swS
  rw [setT_d (by omega), setT_d (by omega), setT_d (by omega), setT_d (by omega), setT_d (by omega), upT_x (by omega), upT_self, upT_self]
  exact ⟨rfl, rfl⟩
theorem sw_k {A B : PS} {k d : Nat} (hk : k = 11 ∨ k = 12 ∨ k = 13 ∨ k = 15) (hd : d < 8) : swS A B k d = B k d := by
  unfold swS
  rcases hk with rfl | rfl | rfl | rfl
  · rw [setT_d (by omega), setT_d (by omega), setT_d (by omega), setT_d (by omega), setT_k, if_pos hd]
  · rw [setT_d (by omega), setT_d (by omega), setT_d (by omega), setT_k, if_pos hd]
  · rw [setT_d (by omega), setT_d (by omega), setT_k, if_pos hd]
  · rw [setT_k, if_pos hd]
theorem sw_oj {A B : PS} : OJ A (swS A B) := by
  unfold swS
  exact ((((((OJ.up rfl).tr (OJ.up rfl)).tr (OJ.set rfl)).tr (OJ.set rfl)).tr (OJ.set rfl)).tr (OJ.set rfl)).tr (OJ.set rfl)
theorem tfS_cs {D : Mem} {j nx : Nat} {b : Int} : cs (tfS D j nx b) (j + 1) = takeS (bk (tfS D j nx b) (2 + (j + 1))) (lw (tfS D j nx b) (16 + (j + 1))) (tfW D j nx b) nx := by
  have e1 : bk (tfS D j nx b) (2 + (j + 1)) = bk (tfD D j nx b) (2 + (j + 1)) := by
    unfold tfS
    exact bk_congr (funext fun i => wrC_d rfl) (funext fun i => wrC_d rfl) (funext fun i => wrC_d rfl) (funext fun i => wrC_d rfl)
  have e2 : lw (tfS D j nx b) (16 + (j + 1)) = lw (tfD D j nx b) (16 + (j + 1)) := by
    unfold tfS
    exact lw_congr (funext fun i => wrC_d rfl) (funext fun i => wrC_d rfl)
  rw [e1, e2]
  unfold tfS
  refine wrC_cs ?_
  refine OJ.tr ?_ take_oj
  intro k hk
  have : tfW D j nx b k = cs (up D 22 0 0 nx b) (j + 1) k := sw_oj k hk
  rw [this]
  unfold tfD
  show _ = up (up D 22 0 0 nx b) 7 (2 + (j + 1)) nx 2 b k (j + 1) 0
  rw [up_o (by omega)]
theorem tfS_22 {D : Mem} {j nx : Nat} {b : Int} {i : Nat} : tfS D j nx b 22 0 0 i = if i = nx then b else D 22 0 0 i := by
  unfold tfS
  rw [wrC_d rfl]
  unfold tfD
  rw [up_o (by omega)]
  simp [up]
theorem tfS_20 {D : Mem} {j nx : Nat} {b : Int} : tfS D j nx b 20 0 0 = D 20 0 0 ∧ tfS D j nx b 21 0 0 = D 21 0 0 := by
  unfold tfS tfD
  rw [wrC_d rfl, wrC_d rfl, up_o (by omega), up_o (by omega), up_o (by omega), up_o (by omega)]
  exact ⟨rfl, rfl⟩
theorem tfS_7 {D : Mem} {j nx : Nat} {b : Int} {y i x : Nat} (h : i ≠ nx ∨ x ≠ 2) : tfS D j nx b 7 y i x = D 7 y i x := by
  unfold tfS
  rw [wrC_d rfl]
  unfold tfD
  have : up (up D 22 0 0 nx b) 7 (2 + (j + 1)) nx 2 b 7 y i x = up D 22 0 0 nx b 7 y i x := by
    have e : ¬ (7 = 7 ∧ y = 2 + (j + 1) ∧ i = nx ∧ x = 2) := by omega
    generalize up D 22 0 0 nx b = M
    unfold up
    rw [if_neg e]
  rw [this, up_o (by omega)]
theorem tfS_b {D : Mem} {j nx : Nat} {b : Int} : tfS D j nx b 7 (2 + (j + 1)) nx 2 = b := by
  unfold tfS
  rw [wrC_d rfl]
  unfold tfD
  rw [up_self]
theorem tfS_lo {D : Mem} {j nx : Nat} {b : Int} {k : Nat} (h : k = 1 ∨ k = 5 ∨ k = 6 ∨ k = 8 ∨ k = 9) : tfS D j nx b k = D k := by
  funext y i
  have hc : kC k = false := by rcases h with rfl | rfl | rfl | rfl | rfl <;> rfl
  unfold tfS
  rw [wrC_d hc]
  unfold tfD
  rw [up_o (by omega), up_o (by omega)]
/-- what holds while the words of one payment are tried in turn -/
def LPp (S : PS) (l n Y c : Nat) (β L T1 T2 : PS) (t0 : Nat → Int) (j : Nat) (D : Mem) : Prop := TF D j ∧ (D 20 0 0 5 = n ∧ D 20 0 0 6 = Y) ∧ BX S l n D j ∧ TV S n Y c D ∧ bk D (2 + j) = β ∧ lw D (16 + j) = L ∧ (∀ k, kC k = true → D k j 0 = T2 k) ∧ ∀ i, i < n → ¬ RemP β T1 i → D 22 0 0 i = t0 i
abbrev Hd (β L T2 : PS) (b : Int) : Prop := b = -1 ∨ (hasB L 99 ∧ opS β T2 b)
def cov (β L T2 : PS) (nx : Nat) (W : Nat → Int) (b : Int) : Prop := (Hd β L T2 (W nx) ∧ b ≤ W nx) ∨ (¬ Hd β L T2 (W nx) ∧ b ≤ -1)
theorem kid_nd {S : PS} {l n P Y c : Nat} {β L T1 T2 : PS} {t0 : Nat → Int} {j r nx yq : Nat} {Ws : (Nat → Int) → Prop} {D : Mem} {b : Int} (hY : Y ≤ 299) (hP : S 29 2 = P) (hc : S 29 0 = c) (hc8 : c ≤ 8) (hP2 : P ≤ 12) (hn : n ≤ P) (hj : 2 ≤ j ∧ j ≤ 4) (hT2 : T2 = runToS β T1 yq) (hN : ∀ W, Ws W → NF (bW β n W) (SW S n W) T1 l P Y c (oW S l n Y W)) (hx : nextS β T1 Y = nx) (hxn : nx < n) (h8 : β 8 nx = yq) (ha : ∀ W, vd n c W → (∀ i, i < n → ¬ RemP β T1 i → W i = t0 i) → Ws W) (hb : ∀ W, Ws W → vd n c W ∧ ∀ i, i < n → ¬ RemP β T1 i → t0 i = W i ∨ t0 i = -1) (hr : cnP (RemP β T1) n ≤ r + 1) (hD : LPp S l n Y c β L T1 T2 t0 j D) (hbr : -1 ≤ b ∧ b < c) : ND S l n P Y c (tfS D j nx b) (j + 1) r (fun W => Ws W ∧ (W nx = b ∨ (b = -1 ∧ ¬ Hd β L T2 (W nx)))) ∧ TF (tfS D j nx b) (j + 1) ∧ ∀ i, i < n → (RemP (bk (tfS D j nx b) (2 + (j + 1))) (cs (tfS D j nx b) (j + 1)) i ↔ RemP β T1 i ∧ i ≠ nx) := by
  obtain ⟨d1, ⟨d2, d3⟩, d4, d5, d6, d7, d8, d9⟩ := hD
  obtain ⟨x1, x2, x3⟩ := next_rem hx
  obtain ⟨s1, s2, s3, s4, s5⟩ := tfS_ok (nx := nx) (b := b) d1.1 (by omega) d1.2.2.2 d1.2.2.1 d1.2.1 hj (by omega)
  have hBX : BX S l n (tfS D j nx b) (j + 1) := BX.mem (fun i h1 h2 => d4 i (by omega) h2) (fun k hk => tfS_lo hk) (fun x i s h => tfS_7 (by omega))
  obtain ⟨c12, c13⟩ := d4.cnt (Nat.le_refl j) (by omega)
  rw [d6] at c12 c13
  obtain ⟨c12', c13'⟩ := hBX.cnt (Nat.le_refl (j + 1)) (by omega)
  have hday : (β 8 nx : Int) = S 33 (4 * nx) := by
    have := d4.day (q := nx) (Nat.le_refl j) (by omega) (by omega)
    rw [d6] at this
    exact this
  have hcs := tfS_cs (D := D) (j := j) (nx := nx) (b := b)
  have ecs : ∀ k, kC k = true → cs (up D 22 0 0 nx b) j k = T2 k := fun k hk => by
    have : 10 ≤ k ∧ k ≤ 19 := by unfold kC at hk; simpa using hk
    show up D 22 0 0 nx b k j 0 = T2 k
    rw [up_o (by omega), d8 k hk]
  have w2 := sw_10 (A := cs (up D 22 0 0 nx b) (j + 1)) (B := cs (up D 22 0 0 nx b) j)
  have kid : ∀ W, Ws W ∧ (W nx = b ∨ (b = -1 ∧ ¬ Hd β L T2 (W nx))) → NF (bW (bk (tfS D j nx b) (2 + (j + 1))) n W) (SW S n W) (cs (tfS D j nx b) (j + 1)) l P Y c (oW S l n Y W) ∧ ∀ i, i < P → (RemP (bk (tfS D j nx b) (2 + (j + 1))) (cs (tfS D j nx b) (j + 1)) i ↔ RemP β T1 i ∧ i ≠ nx) := fun W hW => by
    have hv := (hb W hW.1).1
    rw [hcs]
    have hBj := d4 j (Nat.le_refl j) (by omega) W
    rw [d6, d7] at hBj
    refine kid_sim (L := L) (b := b) hY (by omega) (by omega) hP2 hn (hy_of s1 _).1 (fun i hi => by have := hv i hi; omega) hBj (hBX (j + 1) (Nat.le_refl _) (by omega) W) (hN W hW.1) hx hxn h8 ?_ ?_ (fun k d hk hd => ?_) tfS_b ?_
    · rw [← hT2]
      unfold tfW
      rw [w2.1, ecs 10 rfl]
    · rw [← hT2]
      unfold tfW
      rw [w2.2, ecs 10 rfl]
    · rw [← hT2]
      unfold tfW
      rw [sw_k hk hd, ecs k (by rcases hk with rfl | rfl | rfl | rfl <;> rfl)]
    · rw [← hT2]
      rcases hW.2 with h | ⟨h1, h2⟩
      · exact Or.inl h
      · exact Or.inr ⟨h1, fun h => h2 (Or.inr h)⟩
  have hvs : vd n c (tfS D j nx b 22 0 0) := fun i hi => by
    rw [tfS_22]
    split
    · exact hbr
    · exact ⟨(d5 i hi).1, (d5 i hi).2.1⟩
  have hWs : Ws (tfS D j nx b 22 0 0) := ha _ hvs (fun i hi hnr => by
    rw [tfS_22, if_neg (fun e => by subst e; exact hnr x2)]
    exact d9 i hi hnr)
  have hrem := (kid (tfS D j nx b 22 0 0) ⟨hWs, Or.inl (by rw [tfS_22, if_pos rfl])⟩).2
  refine ⟨⟨⟨by rw [tfS_20.1]; exact d2, by rw [tfS_20.1]; exact d3⟩, hBX, fun i hi => ⟨(hvs i hi).1, (hvs i hi).2, fun hl => ?_⟩, fun W hv hW => ?_, fun W hW => ⟨(hb W hW.1).1, fun i hi hnr => ?_⟩, fun W hW => (kid W hW).1, ?_⟩, ⟨s1, s2, s4, s5⟩, fun i hi => hrem i (by omega)⟩
  · rw [tfS_22]
    by_cases e : i = nx
    · subst e; omega
    · rw [if_neg e]
      exact (d5 i hi).2.2 hl
  · refine ⟨ha W hv (fun i hi hnr => ?_), Or.inl ?_⟩
    · have := hW i hi (fun h => hnr ((hrem i (by omega)).mp h).1)
      rw [tfS_22, if_neg (fun e => by subst e; exact hnr x2)] at this
      rw [this]
      exact d9 i hi hnr
    · have := hW nx hxn (fun h => ((hrem nx (by omega)).mp h).2 rfl)
      rw [tfS_22, if_pos rfl] at this
      exact this
  · rw [tfS_22]
    by_cases e : i = nx
    · subst e
      rw [if_pos rfl]
      rcases hW.2 with h | ⟨h1, h2⟩
      · exact Or.inl h.symm
      · exact Or.inr h1
    · rw [if_neg e]
      have hnr' : ¬ RemP β T1 i := fun h => hnr ((hrem i (by omega)).mpr ⟨h, e⟩)
      rw [d9 i hi hnr']
      exact (hb W hW.1).2 i hi hnr'
  · have := cnP_lt (P := RemP β T1) (Q := RemP (bk (tfS D j nx b) (2 + (j + 1))) (cs (tfS D j nx b) (j + 1))) (p := nx) x2 (fun h => ((hrem nx (by omega)).mp h).2 rfl) n hxn (fun i hi h => ((hrem i (by omega)).mp h).1)
    omega
