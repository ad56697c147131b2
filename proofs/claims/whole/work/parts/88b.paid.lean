/-- behind day x nothing is left of a debt -/
def Pz (β S : PS) (l d x : Nat) : Prop := β 1 d ≤ x ∧ mdS S l (x + 1) 39 d + mdS S l (x + 1) 40 d = 0
/-- the days on which debts were paid, at day k ahead of a payment -/
def PK (β S : PS) (l k : Nat) (T : PS) : Prop := InvS kC T ∧ CB β T ∧ ∀ d : Nat, (d : Int) < β 12 0 → PI T d ∧ (T 14 d = -1 → ∀ x, x < k → ¬ Pz β S l d x) ∧ (T 14 d ≠ -1 → T 14 d ≤ k ∧ (∀ x : Nat, (x : Int) < T 14 d → ¬ Pz β S l d x) ∧ ∀ x : Nat, T 14 d ≤ x → x < k → Pz β S l d x)
theorem pi_run {β T : PS} {d : Nat} {y : Int} (hd : (d : Int) < β 12 0) (h4 : 0 ≤ β 4 d ∧ β 4 d ≤ 1) (h3 : 0 ≤ β 3 d) (h11 : 0 ≤ T 11 d) (h12 : 0 ≤ T 12 d) (h : PI T d) : PI (runToS β T y) d ∧ runToS β T y 14 d = T 14 d ∧ runToS β T y 11 d = T 11 d := by
  have u := runTo_up (y := y) hd h4 h3 h11 h12
  have e14 : runToS β T y 14 d = T 14 d := by rw [runToS_k (by omega)]
  have e11 : runToS β T y 11 d = T 11 d := by rw [runToS_k (by omega)]
  refine ⟨?_, e14, e11⟩
  unfold PI at h ⊢
  rw [e14, e11]
  rcases h with ⟨p1, p2⟩ | ⟨p1, p2⟩
  · exact Or.inl ⟨p1, by omega⟩
  · have := u.2 p2
    exact Or.inr ⟨p1, by omega⟩
theorem pk_take {β L S T D : PS} {l k q : Nat} (hC : CR β L S l) (hr : rtOK β) (h8 : ∀ p, β 8 p ≤ 299) (hq : q < 12) (hk : β 8 q = k) (hM : MR β T D k q) (h : PK β S l k T) : PK β S l k (takeS β L T q) := by
  obtain ⟨i1, i2, i3⟩ := h
  have n8 : (β 12 0).toNat ≤ 8 := by have := hC.2.2.2.1; omega
  obtain ⟨j1, j2⟩ := takeS_inv (L := L) (p := q) i1 hr i2 n8 (h8 q) hq
  refine ⟨j1, j2, fun d hd => ?_⟩
  obtain ⟨p1, p2, p3⟩ := i3 d hd
  obtain ⟨c4, c3⟩ := hC.2.2.1 d hd
  have h11 : 0 ≤ T 11 d ∧ T 11 d ≤ 99990000 := i1 11 d rfl
  have h12 : 0 ≤ T 12 d ∧ T 12 d ≤ 4000000000 := i1 12 d rfl
  obtain ⟨r1, r2, r3⟩ := pi_run (y := β 8 q) hd c4 c3 h11.1 h12.1 p1
  have t2 : tak0 β T q 10 2 = k := by
    unfold tak0
    rw [upT_x (by omega), hk]
    exact runToS_le hM.1
  have tk : ∀ k', k' ≠ 10 → tak0 β T q k' = runToS β T (β 8 q) k' := fun k' h => upT_kk h
  have g := dist_gj (β := β) (L := L) (T := tak0 β T q) (a := β 9 q * 10000) (c := chS β L (tak0 β T q) q) (by rw [t2]; omega)
  have r4 : PI (tak0 β T q) d := by
    unfold PI
    rw [tk 11 (by omega), tk 12 (by omega), tk 14 (by omega)]
    exact r1
  obtain ⟨g1, g2⟩ := g.2 d r4
  rw [tk 14 (by omega), r2, t2] at g2
  refine ⟨g1, ?_⟩
  rcases g2 with g2 | ⟨g2, g3⟩
  · unfold takeS
    rw [g2]
    exact ⟨p2, p3⟩
  · unfold takeS
    rw [g3]
    have hp := p2 g2
    exact ⟨fun h => by omega, fun _ => ⟨Int.le_refl _, fun x hx => hp x (by omega), fun x h1 h2 => by omega⟩⟩
theorem pk_day {β L S T : PS} {l k : Nat} (hC : CR β L S l) (hM : MR β T (mdS S l (k + 1)) k (β 13 0).toNat) (h : PK β S l k T) : PK β S l (k + 1) T := by
  obtain ⟨i1, i2, i3⟩ := h
  refine ⟨i1, i2, fun d hd => ?_⟩
  obtain ⟨p1, p2, p3⟩ := i3 d hd
  obtain ⟨c4, c3⟩ := hC.2.2.1 d hd
  have h11 : 0 ≤ T 11 d ∧ T 11 d ≤ 99990000 := i1 11 d rfl
  have h12 : 0 ≤ T 12 d ∧ T 12 d ≤ 4000000000 := i1 12 d rfl
  have u := runTo_up (y := (k : Int)) hd c4 c3 h11.1 h12.1
  have e11 : runToS β T k 11 d = T 11 d := by rw [runToS_k (by omega)]
  obtain ⟨a1, a2, a3, -⟩ := hM.2.1.2 d hd
  have w1 : 1 ≤ β 0 d := hC.1.2.2.2.2.1 d hd
  rw [e11] at a1 a3
  refine ⟨p1, fun h x hx => ?_, fun h => ?_⟩
  · by_cases e : x = k
    · subst e
      intro hz
      unfold Pz at hz
      rw [a1, a2, if_pos hz.1] at hz
      unfold PI at p1
      omega
    · exact p2 h x (by omega)
  · obtain ⟨q1, q2, q3⟩ := p3 h
    refine ⟨by omega, q2, fun x h1 h2 => ?_⟩
    by_cases e : x = k
    · subst e
      have z : T 11 d + T 12 d = 0 := by unfold PI at p1; omega
      have z2 := u.2 z
      have b : β 1 d ≤ x := by
        apply Classical.byContradiction
        intro hb
        have := (a3 (by omega)).1
        omega
      refine ⟨b, ?_⟩
      rw [a1, a2, if_pos b]
      omega
    · exact q3 x h1 (by omega)
/-- the class's days of payment, told by the model's days -/
theorem paid_sim {β L S T0 : PS} {l N : Nat} (hN : N = 300) (hC : CR β L S l) (hR : PyR β) (h13 : β 13 0 ≤ 12) (hS : InvS kM S) (hO : mOK S) (hT : InvS kC T0) (hw : ∀ d, 0 ≤ β 0 d ∧ β 0 d ≤ 9999) (h1 : ∀ d, 0 ≤ β 1 d) (hr : rtOK β) (h8 : ∀ p, β 8 p ≤ 299) : ∀ d : Nat, (d : Int) < β 12 0 → (gbS β L (stS β T0) 299 14 d = -1 ∧ ∀ x, x < N → ¬ Pz β S l d x) ∨ (0 ≤ gbS β L (stS β T0) 299 14 d ∧ gbS β L (stS β T0) 299 14 d ≤ 299 ∧ ∀ x, x < N → (Pz β S l d x ↔ gbS β L (stS β T0) 299 14 d ≤ x)) := by
  intro d hd
  obtain ⟨k, hk⟩ : ∃ k : Nat, k = 299 := ⟨_, rfl⟩
  have hCb : CR β L (begS S) l := hC.wf (begL_wf 8)
  obtain ⟨s1, s2⟩ := stS_inv hT hw
  have hst : PK β S l 0 (stS β T0) := by
    refine ⟨s1, s2, fun d hd => ?_⟩
    have hI : InvS kC (upT (upT (upT T0 10 2 0) 10 3 (-1)) 10 13 0) := InvS.up (InvS.up (InvS.up hT (show 0 ≤ (0 : Int) ∧ (0 : Int) ≤ 299 by omega)) (show -1 ≤ (-1 : Int) ∧ (-1 : Int) ≤ 11 by omega)) (by show True; trivial)
    obtain ⟨a1, a2, a3, a4, a5⟩ := (stL_inv (β := β) hI hw (β 12 0).toNat).2 d (by omega)
    have e11 : stS β T0 11 d = β 0 d * 10000 := a1
    have e12 : stS β T0 12 d = 0 := a2
    have e14 : stS β T0 14 d = -1 := a4
    have w1 : 1 ≤ β 0 d := hC.1.2.2.2.2.1 d hd
    refine ⟨Or.inl ⟨e14, by omega⟩, fun _ x hx => by omega, fun h => absurd e14 h⟩
  obtain ⟨T', g1, g2, g3⟩ := gb_gen (l := l) (y0 := 0) (k := k) (t := 299) (by omega) (by omega) hCb hR h13 (MK.beg hS hO) (fun k _ T => PK β S l k T) (fun T q k h1 h2 h3 h4 => pk_take hC hr h8 (by omega) (by rw [h2]; omega) (by rw [Nat.zero_add] at h3; exact h3) h4) (fun T q k _ _ h => h) (fun T k h1 h2 => pk_day hC (by rw [mgo_md, Nat.zero_add] at h1; exact h1) h2) (stS β T0) (MR.beg hC hT hw h1 hR) hst
  rw [mgo_md] at g2
  have g4 := pk_day hC (by rw [show ((k : Nat) : Int) = 299 by omega]; exact g2) g3
  obtain ⟨p1, p2, p3⟩ := g4.2.2 d hd
  have e14 : gbS β L (stS β T0) 299 14 d = T' 14 d := by rw [g1, runToS_k (by omega)]
  have b14 : -1 ≤ T' 14 d ∧ T' 14 d ≤ 299 := g4.1 14 d rfl
  rw [e14]
  by_cases c : T' 14 d = -1
  · exact Or.inl ⟨c, fun x hx => p2 c x (by omega)⟩
  · obtain ⟨q1, q2, q3⟩ := p3 c
    refine Or.inr ⟨by omega, b14.2, fun x hx => ⟨fun hz => ?_, fun h => q3 x h (by omega)⟩⟩
    apply Classical.byContradiction
    intro hb
    exact q2 x (by omega) hz
theorem q_paid {m : Mem} {S : PS} {ln N : Nat} (hN : N = 300) (hI : Inv m) (hA : RlA m S) (hS : InvS kM S) (hO : mOK S) (hln : ln < 2) : ∀ d : Nat, (d : Int) < S 29 0 → (qS m ln 299 14 d = -1 ∧ ∀ x, x < N → ¬ Pz (qB m ln) S ln d x) ∨ (0 ≤ qS m ln 299 14 d ∧ qS m ln 299 14 d ≤ 299 ∧ ∀ x, x < N → (Pz (qB m ln) S ln d x ↔ qS m ln 299 14 d ≤ x)) := by
  have hC := st_CR (j := 0) hI hA hln
  obtain ⟨z1, z2, z3, z4, z5⟩ := st_hy (j := 0) (ln := ln) hI
  have hI3 : Inv (stM m 0 0 ln) := hI.stM
  intro d hd
  exact paid_sim hN hC z1 z2 hS hO z3 z4 z5 (rt_of hI3 (2 + 0)) (fun p => (hI3 7 (2 + 0) p 0).2) d (by rw [hC.1.1]; exact hd)
