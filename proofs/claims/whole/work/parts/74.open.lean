/-- debts that are not in the book have nothing -/
def ZR (β D : PS) : Prop := ∀ d : Nat, β 12 0 ≤ (d : Int) → d < 8 → D 39 d = 0 ∧ D 40 d = 0
theorem op_iff {β T D : PS} {y : Int} {d : Nat} (h : DR β T D y) (hd : (d : Int) < β 12 0) : opS β T (d : Int) ↔ 0 < D 39 d + D 40 d := by
  obtain ⟨h0, h1⟩ := h
  obtain ⟨a1, a2, a3, a4, a5, a6, a7, a8⟩ := h1 d hd
  unfold opS
  rw [Int.toNat_natCast, h0]
  by_cases c : β 1 d ≤ y
  · rw [if_pos c] at a1
    omega
  · rw [if_neg c] at a1
    have := a3 (by omega)
    omega
theorem op_since {β T D : PS} {y : Int} {d : Nat} (h : DR β T D y) (hd : (d : Int) < β 12 0) (ho : 0 < D 39 d + D 40 d) : β 1 d ≤ y ∧ T 11 d = D 39 d ∧ T 12 d = D 40 d := by
  obtain ⟨h0, h1⟩ := h
  obtain ⟨a1, a2, a3, a4, a5, a6, a7, a8⟩ := h1 d hd
  by_cases c : β 1 d ≤ y
  · rw [if_pos c] at a1
    omega
  · rw [if_neg c] at a1
    have := a3 (by omega)
    omega
theorem dead_eq {β L T D : PS} {l d : Nat} {y : Int} (hC : CR β L D l) (h : DR β T D y) (hd : (d : Int) < β 12 0) : deadF β T d = bZ (dyM D d y) := by
  have ho := op_iff h hd
  obtain ⟨a1, a2, a3, a4, a5, a6, a7, a8⟩ := h.2 d hd
  have f2 : β 2 d = D 31 (8 * d + 2) := hC.1.2.2.1 d hd 2 (by omega)
  have f7 : β 7 d = D 31 (8 * d + 7) := hC.1.2.2.1 d hd 7 (by omega)
  unfold deadF
  refine congrArg bZ (propext ?_)
  unfold dyM
  rw [ho, h.1, f2, f7, a4]
  omega
theorem deadL_at {β S : PS} : ∀ n d, d < n → deadL β S n 16 d = deadF β S d
  | 0, d, h => by omega
  | n + 1, d, h => by
    show upT (deadL β S n) 16 n (deadF β S n) 16 d = _
    by_cases e : d = n
    · subst e; rw [upT_self]
    · rw [upT_x e]; exact deadL_at n d (by omega)
theorem paL_at {S : PS} {y : Int} : ∀ n d, d < n → paL S y n 43 d = 0 ∧ paL S y n 44 d = 0 ∧ paL S y n 46 d = bZ (dyM S d y)
  | 0, d, h => by omega
  | n + 1, d, h => by
    show upT (upT (upT (paL S y n) 43 n 0) 44 n 0) 46 n (bZ (dyM S n y)) 43 d = 0 ∧ upT (upT (upT (paL S y n) 43 n 0) 44 n 0) 46 n (bZ (dyM S n y)) 44 d = 0 ∧ upT (upT (upT (paL S y n) 43 n 0) 44 n 0) 46 n (bZ (dyM S n y)) 46 d = _
    by_cases e : d = n
    · subst e; simp [upT]
    · have := paL_at (S := S) (y := y) n d (by omega)
      simpa [upT, e] using this
theorem pa2_k {D : PS} {a y : Int} {k : Nat} (h : k ≠ 43 ∧ k ≠ 44 ∧ k ≠ 46 ∧ k ≠ 29) : pa2 D a y k = D k := by
  unfold pa2
  rw [upT_kk h.2.2.2, paL_k ⟨h.1, h.2.1, h.2.2.1⟩]
theorem pa2_wf {D : PS} {a y : Int} : WF D (pa2 D a y) := by
  refine ⟨fun k hk h29 => pa2_k (by omega), fun x hx => ?_⟩
  unfold pa2
  rw [upT_x hx, paL_k (by omega)]
theorem DR.c {β T T' D D' : PS} {y : Int} (h : DR β T D y) (h10 : T' 10 2 = T 10 2) (hT : ∀ k, k = 11 ∨ k = 12 ∨ k = 13 ∨ k = 15 → T' k = T k) (hD : ∀ k, k = 39 ∨ k = 40 ∨ k = 41 ∨ k = 42 → D' k = D k) : DR β T' D' y := by
  unfold DR
  rw [h10, hT 11 (by omega), hT 12 (by omega), hT 13 (by omega), hT 15 (by omega), hD 39 (by omega), hD 40 (by omega), hD 41 (by omega), hD 42 (by omega)]
  exact h
theorem dist0_sim {β L T D : PS} {l : Nat} {y a : Int} (hC : CR β L D l) (h : DR β T D y) : GR β (dist0 β T) (pa2 D a y) y := by
  have hn : β 12 0 = D 29 0 := hC.1.1
  have h8 := hC.2.2.2.1
  refine ⟨h.c (by rw [dist0_k (by omega)]) (fun k hk => dist0_k (by omega)) (fun k hk => pa2_k (by omega)), fun d hd => ?_⟩
  have dn : d < (D 29 0).toNat := by omega
  obtain ⟨p1, p2, p3⟩ := paL_at (S := D) (y := y) _ d dn
  have q : ∀ k, k ≠ 29 → pa2 D a y k = paL D y (D 29 0).toNat k := fun k hk => by unfold pa2; rw [upT_kk hk]
  rw [q 46 (by omega), q 43 (by omega), q 44 (by omega), p1, p2, p3]
  unfold dist0 deadS
  rw [deadL_at _ d (by omega), deadL_k (by omega), deadL_k (by omega)]
  refine ⟨?_, ?_, ?_⟩
  · rw [← dead_eq hC h hd]
    unfold deadF opS
    simp only [setT_d (show (10 : Nat) ≠ 19 by omega), setT_d (show (10 : Nat) ≠ 18 by omega), setT_d (show (11 : Nat) ≠ 19 by omega), setT_d (show (11 : Nat) ≠ 18 by omega), setT_d (show (12 : Nat) ≠ 19 by omega), setT_d (show (12 : Nat) ≠ 18 by omega), setT_d (show (13 : Nat) ≠ 19 by omega), setT_d (show (13 : Nat) ≠ 18 by omega)]
  · rw [setT_d (by omega), setT_k]
    unfold fil0
    rw [if_pos (by omega)]
  · rw [setT_k]
    unfold fil0
    rw [if_pos (by omega)]
/-- the debt chosen by word or answer -/
theorem ch_sim {β L T D : PS} {l p : Nat} {y : Int} (hC : CR β L D l) (h : DR β T D y) (hZ : ZR β D) (hw : -1 ≤ β 10 p ∧ β 10 p ≤ 7) (ha : -1 ≤ β 11 p ∧ β 11 p ≤ 7) : (chS β L T p = -1 ∧ chM D l (β 10 p) (β 11 p) = -4) ∨ ∃ d : Nat, (d : Int) < β 12 0 ∧ 0 < D 39 d + D 40 d ∧ chS β L T p = d ∧ chM D l (β 10 p) (β 11 p) = d := by
  have hb1 : hasB L 99 ↔ hasM D l 99 := hC.bit (c := 99) (by omega) (by omega)
  have hb2 : hasB L 116 ↔ hasM D l 116 := hC.bit (c := 116) (by omega) (by omega)
  have key : ∀ w : Int, -1 ≤ w ∧ w ≤ 7 → (opS β T w ↔ 0 ≤ w ∧ 0 < D 39 w.toNat + D 40 w.toNat) ∧ (opS β T w → w < β 12 0) := by
    intro w hw
    refine ⟨?_, fun ho => ho.2.1⟩
    by_cases c : 0 ≤ w
    · obtain ⟨x, rfl⟩ : ∃ x : Nat, w = x := ⟨w.toNat, by omega⟩
      by_cases c2 : (x : Int) < β 12 0
      · rw [op_iff h c2, Int.toNat_natCast]
        omega
      · have z := hZ x (by omega) (by omega)
        constructor
        · intro ho; exact absurd ho.2.1 c2
        · rw [Int.toNat_natCast]
          omega
    · constructor
      · intro ho; exact absurd ho.1 c
      · omega
  unfold chS chM
  obtain ⟨k1, k1'⟩ := key _ hw
  obtain ⟨k2, k2'⟩ := key _ ha
  by_cases c1 : hasB L 99 ∧ opS β T (β 10 p)
  · right
    have o := k1.mp c1.2
    refine ⟨(β 10 p).toNat, ?_, o.2, ?_, ?_⟩
    · have := k1' c1.2; omega
    · rw [if_pos c1]; omega
    · rw [if_pos ⟨hb1.mp c1.1, o⟩]; omega
  · rw [if_neg c1, if_neg (fun g : hasM D l 99 ∧ 0 ≤ β 10 p ∧ 0 < D 39 (β 10 p).toNat + D 40 (β 10 p).toNat => c1 ⟨hb1.mpr g.1, k1.mpr g.2⟩)]
    by_cases c2 : hasB L 116 ∧ opS β T (β 11 p)
    · right
      have o := k2.mp c2.2
      refine ⟨(β 11 p).toNat, ?_, o.2, ?_, ?_⟩
      · have := k2' c2.2; omega
      · rw [if_pos c2]; omega
      · rw [if_pos ⟨hb2.mp c2.1, o⟩]; omega
    · left
      rw [if_neg c2, if_neg (fun g : hasM D l 116 ∧ 0 ≤ β 11 p ∧ 0 < D 39 (β 11 p).toNat + D 40 (β 11 p).toNat => c2 ⟨hb2.mpr g.1, k2.mpr g.2⟩)]
      exact ⟨rfl, rfl⟩
