theorem cnP_pos {P : Nat → Prop} {p n : Nat} (h : P p) (hp' : p < n) : 1 ≤ cnP P n := by
  have := cnP_lt (P := P) (Q := fun _ => False) (p := p) h (fun h => h) n hp' (fun q _ h => h.elim)
  omega
theorem MR.run2 {β T D : PS} {y : Int} {p : Nat} (h : MR β T D y p) : MR β (runToS β T y) D y p := by
  obtain ⟨m1, m2, m3, m4⟩ := h
  have e2 := runToS_le (β := β) m1
  refine ⟨by omega, by rw [runToS_id (S := runToS β T y) (by omega)]; exact m2, m3, fun q hq => ?_⟩
  rw [← m4 q hq]
  by_cases c : T 10 2 < y
  · unfold RemP
    rw [(runToS_day c).1, (runToS_day c).2]
    have := m4 q hq
    unfold RemP at this
    omega
  · rw [runToS_id (by omega)]
/-- the class takes all payments whose words aren't sought -/
theorem at_sim {β L S : PS} {l n P Y c : Nat} {Ws : (Nat → Int) → Prop} {o : (Nat → Int) → Int} (hY : Y ≤ 299) (hP : β 13 0 = P) (hP2 : P ≤ 12) (hn : n ≤ P) (hR : PyR β) (hB : ∀ W, CR (bW β n W) L (SW S n W) l) (hV : ∀ W, Ws W → ∀ i, i < n → -1 ≤ W i ∧ W i ≤ 7) (W0 : Nat → Int) (hW0 : Ws W0) : ∀ f T, cnP (RemP β T) P ≤ f → (∀ W, Ws W → NF (bW β n W) (SW S n W) T l P Y c (o W)) → (∀ W, Ws W → NF (bW β n W) (SW S n W) (atL β L n Y f T) l P Y c (o W)) ∧ nextS β (atL β L n Y f T) Y < n ∧ ∀ i, i < n → (RemP β (atL β L n Y f T) i ↔ RemP β T i) := by
  have hPW : ∀ W, bW β n W 13 0 = P := fun W => by rw [bW_f 13 (by omega)]; exact hP
  have go : ∀ T W, Ws W → NF (bW β n W) (SW S n W) T l P Y c (o W) → (nextS β T Y = -1) ∨ ∃ (q : Nat) (yq : Nat) (D' : PS), nextS β T Y = q ∧ q < P ∧ RemP β T q ∧ β 8 q = yq ∧ yq ≤ Y ∧ MR (bW β n W) T D' yq q ∧ MJ D' yq ∧ WF (SW S n W) D' ∧ Ft l P Y c D' yq q = o W := fun T W hW hN => by
    obtain ⟨D, y, p, a1, a2, a3, a4, a5, a6⟩ := hN
    rcases adv hY (hB W) (hPW W) hP2 (c := c) _ D y p rfl a1 a2 a3 a4 a5 with ⟨b1, -⟩ | ⟨q, yq, D', b1, b2, b3, b4, b5, b6, b7, b8, b9⟩
    · rw [nextS_t bW_f] at b1
      exact Or.inl b1
    · rw [nextS_t bW_f] at b1
      rw [RemP_t bW_f] at b3
      rw [bW_f 8 (by omega)] at b4
      exact Or.inr ⟨q, yq, D', b1, b2, b3, b4, b5, b6, b7, b8, b9.trans a6⟩
  intro f
  induction f with
  | zero =>
    intro T hf hN
    refine ⟨hN, ?_, fun _ _ => Iff.rfl⟩
    show nextS β T Y < n
    rcases go T W0 hW0 (hN W0 hW0) with b1 | ⟨q, yq, D', b1, b2, b3, -⟩
    · omega
    · have := cnP_pos (P := RemP β T) b3 b2
      omega
  | succ f ih =>
    intro T hf hN
    unfold atL
    by_cases c1 : (n : Int) ≤ nextS β T Y
    · rw [if_pos c1]
      have take : ∀ W, Ws W → NF (bW β n W) (SW S n W) (takeS β L T (nextS β T Y).toNat) l P Y c (o W) ∧ ∀ i, i < P → (RemP β (takeS β L T (nextS β T Y).toNat) i ↔ RemP β T i ∧ i ≠ (nextS β T Y).toNat) := fun W hW => by
        rcases go T W hW (hN W hW) with b1 | ⟨q, yq, D', b1, b2, b3, b4, b5, b6, b7, b8, b9⟩
        · omega
        · have eq : (nextS β T Y).toNat = q := by omega
          rw [eq]
          have et : takeS (bW β n W) L T q = takeS β L T q := takeS_t bW_f (by rw [bW_10, if_neg (by omega)])
          obtain ⟨k1, k2, k3, k4, k5, k6⟩ := tk_sim (c := c) hY b5 (hB W) (hPW W) (hR.bw (hV W hW)) b2 (by rw [bW_f 8 (by omega)]; exact b4) b6 b7 b8
          rw [et] at k1 k5 k6
          refine ⟨⟨_, yq, q + 1, b5, by omega, k1, k2, k3, k4.trans b9⟩, fun i hi => ?_⟩
          have r1 := b6.2.2.2 i (by rw [hPW W]; omega)
          have r2 := k1.2.2.2 i (by rw [hPW W]; omega)
          rw [RemP_t bW_f, bW_f 8 (by omega)] at r1 r2
          rw [r1, r2]
          by_cases e : i = q
          · subst e; omega
          · omega
      have hrem := (take W0 hW0).2
      obtain ⟨q, hq, hq2, hq3⟩ : ∃ q : Nat, nextS β T Y = q ∧ q < P ∧ RemP β T q := by
        rcases go T W0 hW0 (hN W0 hW0) with b1 | ⟨q, yq, D', b1, b2, b3, -⟩
        · omega
        · exact ⟨q, b1, b2, b3⟩
      have hcn := cnP_lt (P := RemP β T) (Q := RemP β (takeS β L T (nextS β T Y).toNat)) (p := q) hq3 (fun h => ((hrem q hq2).mp h).2 (by omega)) P hq2 (fun i hi h => ((hrem i hi).mp h).1)
      obtain ⟨j1, j2, j3⟩ := ih (takeS β L T (nextS β T Y).toNat) (by omega) (fun W hW => (take W hW).1)
      refine ⟨j1, j2, fun i hi => ?_⟩
      rw [j3 i hi, hrem i (by omega)]
      exact ⟨fun h => h.1, fun h => ⟨h, by omega⟩⟩
    · rw [if_neg c1]
      exact ⟨hN, by omega, fun _ _ => Iff.rfl⟩
/-- what is owed where no payment is to come -/
theorem leaf_ow {β L X T : PS} {l n P Y c : Nat} {W : Nat → Int} {o : Int} (hY : Y ≤ 299) (hP : β 13 0 = P) (hP2 : P ≤ 12) (hc : β 12 0 = c) (hB : CR (bW β n W) L X l) (h : NF (bW β n W) X T l P Y c o) (hx : nextS β T Y < 0) : owedL β (runToS β T Y) c = o := by
  obtain ⟨D, y, p, a1, a2, a3, a4, a5, a6⟩ := h
  rcases adv hY hB (by rw [bW_f 13 (by omega)]; exact hP) hP2 (c := c) _ D y p rfl a1 a2 a3 a4 a5 with ⟨b1, D', b2, b3, b4⟩ | ⟨q, yq, D', b1, b2, b3, b4, b5, b6, b7, b8, b9⟩
  · have e := owed_eq b2.2.1 c (by rw [bW_f 12 (by omega), hc]; omega)
    rw [owedL_t bW_f, runToS_t bW_f] at e
    rw [e, b4, a6]
  · rw [nextS_t bW_f] at b1
    omega
/-- where a course stands is handed on to another -/
theorem MR.mv {β β' L L' T T' D : PS} {l p : Nat} {y : Int} (hC : CR β L D l) (hC' : CR β' L' D l) (h : MR β T D y p) (h2 : T 10 2 = y) (e2 : T' 10 2 = T 10 2) (e3 : T' 10 3 = T 10 3) (ek : ∀ k d, k = 11 ∨ k = 12 ∨ k = 13 ∨ k = 15 → d < 8 → T' k d = T k d) : MR β' T' D y p := by
  obtain ⟨m1, m2, m3, m4⟩ := h
  have c12 : β' 12 0 = β 12 0 := hC'.1.1.trans hC.1.1.symm
  have c13 : β' 13 0 = β 13 0 := hC'.1.2.1.trans hC.1.2.1.symm
  have h8 := hC.2.2.2.1
  rw [runToS_id (by omega)] at m2
  refine ⟨by omega, ?_, fun d h1 h2 => m3 d (by omega) h2, fun q hq => ?_⟩
  · rw [runToS_id (by omega)]
    refine ⟨e2.trans h2, fun d hd => ?_⟩
    have hd' : (d : Int) < β 12 0 := by omega
    have f0 : β' 0 d = β 0 d := (hC'.1.2.2.1 d hd 0 (by omega)).trans (hC.1.2.2.1 d hd' 0 (by omega)).symm
    have f1 : β' 1 d = β 1 d := (hC'.1.2.2.1 d hd 1 (by omega)).trans (hC.1.2.2.1 d hd' 1 (by omega)).symm
    rw [f0, f1, ek 11 d (by omega) (by omega), ek 12 d (by omega) (by omega), ek 13 d (by omega) (by omega), ek 15 d (by omega) (by omega)]
    exact m2.2 d hd'
  · have hq' : (q : Int) < β 13 0 := by omega
    have f8 : β' 8 q = β 8 q := (hC'.1.2.2.2.1 q hq 8 (by omega) (by omega)).trans (hC.1.2.2.2.1 q hq' 8 (by omega) (by omega)).symm
    have := m4 q hq'
    unfold RemP at this ⊢
    rw [f8, e2, e3]
    exact this
/-- a word is tried for a payment -/
theorem kid_sim {β β' L L' S T T3 : PS} {l n P Y c nx yq : Nat} {W : Nat → Int} {o b : Int} (hY : Y ≤ 299) (hP : β 13 0 = P) (hP' : β' 13 0 = P) (hP2 : P ≤ 12) (hn : n ≤ P) (hR' : PyR β') (hV : ∀ i, i < n → -1 ≤ W i ∧ W i < β 12 0) (hB : CR (bW β n W) L (SW S n W) l) (hB' : CR (bW β' n W) L' (SW S n W) l) (h : NF (bW β n W) (SW S n W) T l P Y c o) (hx : nextS β T Y = nx) (hxn : nx < n) (h8 : β 8 nx = yq) (e2 : T3 10 2 = runToS β T yq 10 2) (e3 : T3 10 3 = runToS β T yq 10 3) (ek : ∀ k d, k = 11 ∨ k = 12 ∨ k = 13 ∨ k = 15 → d < 8 → T3 k d = runToS β T yq k d) (hb : β' 10 nx = b) (hw : W nx = b ∨ (b = -1 ∧ ¬ (hasB L 99 ∧ opS β (runToS β T yq) (W nx)))) : NF (bW β' n W) (SW S n W) (takeS β' L' T3 nx) l P Y c o ∧ ∀ i, i < P → (RemP β' (takeS β' L' T3 nx) i ↔ RemP β T i ∧ i ≠ nx) := by
  obtain ⟨D, y, p, a1, a2, a3, a4, a5, a6⟩ := h
  rcases adv hY hB (by rw [bW_f 13 (by omega)]; exact hP) hP2 (c := c) _ D y p rfl a1 a2 a3 a4 a5 with ⟨b1, -⟩ | ⟨q, yq', D', b1, b2, b3, b4, b5, b6, b7, b8, b9⟩
  · rw [nextS_t bW_f] at b1
    omega
  · rw [nextS_t bW_f] at b1
    rw [bW_f 8 (by omega)] at b4
    obtain rfl : q = nx := by omega
    obtain rfl : yq' = yq := by omega
    have b10 := b6.run2
    have cnt : 0 ≤ bW β n W 12 0 ∧ bW β n W 12 0 ≤ 8 := hB.2.2.2.1
    rw [bW_f 12 (by omega)] at cnt
    have t2 : runToS (bW β n W) T yq' 10 2 = yq' := runToS_le b6.1
    have hCD := hB.wf b8
    have hCD' := hB'.wf b8
    have b11 := b10.mv (T' := T3) hCD hCD' t2 (by rw [runToS_t bW_f]; exact e2) (by rw [runToS_t bW_f]; exact e3) (fun k d h1 h2 => by rw [runToS_t bW_f]; exact ek k d h1 h2)
    have h8' : bW β' n W 8 q = yq' := by
      have := hCD'.1.2.2.2.1 q (by rw [bW_f 13 (by omega)]; omega) 8 (by omega) (by omega)
      have g := hCD.1.2.2.2.1 q (by rw [bW_f 13 (by omega)]; omega) 8 (by omega) (by omega)
      rw [this, ← g, bW_f 8 (by omega)]
      exact b4
    obtain ⟨k1, k2, k3, k4, k5, k6⟩ := tk_sim (c := c) hY b5 hB' (by rw [bW_f 13 (by omega)]; exact hP') (hR'.bw (fun i hi => by have := hV i hi; omega)) b2 h8' b11 b7 b8
    have et : takeS (bW β' n W) L' T3 q = takeS β' L' T3 q := by
      rcases hw with hw | ⟨hw1, hw2⟩
      · exact takeS_t bW_f (by rw [bW_10, if_pos hxn, hw, hb])
      · refine takeS_nh bW_f (fun h => ?_) (fun h => ?_)
        · rw [hb, hw1] at h
          have := h.2.1
          omega
        · rw [bW_10, if_pos hxn] at h
          apply hw2
          have hbit := (hCD'.bit (c := 99) (by omega) (by omega)).mp h.1
          refine ⟨(hCD.bit (c := 99) (by omega) (by omega)).mpr hbit, ?_⟩
          have hop := h.2
          obtain ⟨w, hw3⟩ : ∃ w : Nat, W q = w := ⟨(W q).toNat, by have := hop.1; omega⟩
          have hlt := hV q hxn
          rw [hw3] at hop ⊢
          have eb : bW β' n W 12 0 = bW β n W 12 0 := hCD'.1.1.trans hCD.1.1.symm
          have hw12 : (w : Int) < bW β n W 12 0 := by rw [bW_f 12 (by omega)]; omega
          have d1 : DR (bW β n W) (runToS (bW β n W) T yq') D' yq' := b6.2.1
          have d2 : DR (bW β' n W) T3 D' yq' := by
            have := b11.2.1
            rw [runToS_id (by have := b11.1; rw [e2, ← runToS_t (bW_f (β := β) (n := n) (W := W)), t2]; omega)] at this
            exact this
          have d3 : DR (bW β' n W) (tak0 (bW β' n W) T3 q) D' yq' := by
            unfold tak0
            rw [h8', runToS_id (by rw [d2.1]; omega)]
            exact d2.c (upT_x (by omega)) (fun k hk => upT_kk (by omega)) (fun _ _ => rfl)
          rw [← op_t (bW_f (β := β') (n := n) (W := W)), ← tak0_t (bW_f (β := β') (n := n) (W := W))] at hop
          have g1 := (op_iff d3 (by rw [eb]; exact hw12)).mp hop
          have g2 := (op_iff d1 hw12).mpr g1
          rw [op_t bW_f, runToS_t bW_f] at g2
          exact g2
    rw [et] at k1 k5 k6
    refine ⟨⟨_, yq', q + 1, b5, by omega, k1, k2, k3, k4.trans (b9.trans a6)⟩, fun i hi => ?_⟩
    have r1 := b6.2.2.2 i (by rw [bW_f 13 (by omega)]; omega)
    have r2 := k1.2.2.2 i (by rw [bW_f 13 (by omega)]; omega)
    have f8 : bW β' n W 8 i = bW β n W 8 i := (hCD'.1.2.2.2.1 i (by rw [bW_f 13 (by omega)]; omega) 8 (by omega) (by omega)).trans (hCD.1.2.2.2.1 i (by rw [bW_f 13 (by omega)]; omega) 8 (by omega) (by omega)).symm
    rw [f8] at r2
    rw [RemP_t bW_f, bW_f 8 (by omega)] at r1 r2
    rw [r1, r2]
    by_cases e : i = q
    · subst e; omega
    · omega
