theorem runOn_up {β T : PS} {d : Nat} (h4 : 0 ≤ β 4 d ∧ β 4 d ≤ 1) (h3 : 0 ≤ β 3 d) (h11 : 0 ≤ T 11 d) (h12 : 0 ≤ T 12 d) : ∀ n : Nat, T 12 d ≤ runOnS β T d n 12 d ∧ (T 11 d + T 12 d = 0 → runOnS β T d n 12 d = 0)
  | 0 => by
    rw [runOnS_0 (by omega)]
    exact ⟨Int.le_refl _, fun h => by omega⟩
  | n + 1 => by
    obtain ⟨i1, i2⟩ := runOn_up h4 h3 h11 h12 n
    have e := runOnS_1 (β := β) (S := T) (d := d) (days := n) (by omega) h4
    rw [show ((n + 1 : Nat) : Int) = (n : Int) + 1 by omega, e]
    obtain ⟨v, hv⟩ : ∃ v, v = runOnS β T d n 12 d := ⟨_, rfl⟩
    rw [← hv] at i1 i2 ⊢
    have hw : 0 ≤ (if β 4 d = 1 then T 11 d + v else T 11 d) := by split <;> omega
    have hq : 0 ≤ (if β 4 d = 1 then T 11 d + v else T 11 d) * β 3 d / 10000 := Int.ediv_nonneg (Int.mul_nonneg hw h3) (by omega)
    refine ⟨by omega, fun h => ?_⟩
    have hz := i2 h
    have : (if β 4 d = 1 then T 11 d + v else T 11 d) = 0 := by split <;> omega
    rw [this, hz, Int.zero_mul]
    rfl
theorem runTo_up {β T : PS} {d : Nat} {y : Int} (hd : (d : Int) < β 12 0) (h4 : 0 ≤ β 4 d ∧ β 4 d ≤ 1) (h3 : 0 ≤ β 3 d) (h11 : 0 ≤ T 11 d) (h12 : 0 ≤ T 12 d) : T 12 d ≤ runToS β T y 12 d ∧ (T 11 d + T 12 d = 0 → runToS β T y 12 d = 0) := by
  by_cases c : T 10 2 < y
  · rw [runToS_12 hd c]
    by_cases c2 : y - max (T 10 2) (β 1 d) ≤ 0
    · rw [runOnS_0 c2]
      exact ⟨Int.le_refl _, fun h => by omega⟩
    · obtain ⟨n, hn⟩ : ∃ n : Nat, y - max (T 10 2) (β 1 d) = n := ⟨(y - max (T 10 2) (β 1 d)).toNat, by omega⟩
      rw [hn]
      exact runOn_up h4 h3 h11 h12 n
  · rw [runToS_id (by omega)]
    exact ⟨Int.le_refl _, fun h => by omega⟩
/-- a debt is paid, with its day, or something is left of it -/
def PI (T : PS) (d : Nat) : Prop := (T 14 d = -1 ∧ 0 < T 11 d + T 12 d) ∨ (0 ≤ T 14 d ∧ T 11 d + T 12 d = 0)
def GJ (T T' : PS) : Prop := T' 10 2 = T 10 2 ∧ ∀ d, PI T d → PI T' d ∧ (T' 14 d = T 14 d ∨ (T 14 d = -1 ∧ T' 14 d = T 10 2))
theorem GJ.rf {T : PS} : GJ T T := ⟨rfl, fun _ h => ⟨h, Or.inl rfl⟩⟩
theorem GJ.tr {A B C : PS} (h : GJ A B) (g : GJ B C) : GJ A C := by
  refine ⟨g.1.trans h.1, fun d hd => ?_⟩
  obtain ⟨a1, a2⟩ := h.2 d hd
  obtain ⟨b1, b2⟩ := g.2 d a1
  refine ⟨b1, ?_⟩
  rw [h.1] at b2
  rcases a2 with a2 | ⟨a2, a3⟩
  · rw [a2] at b2; exact b2
  · rcases b2 with b2 | ⟨b2, b3⟩
    · exact Or.inr ⟨a2, b2.trans a3⟩
    · exact Or.inr ⟨a2, b3⟩
theorem GJ.k {T T' : PS} (h10 : T' 10 2 = T 10 2) (h : ∀ k, k = 11 ∨ k = 12 ∨ k = 14 → T' k = T k) : GJ T T' := by
  refine ⟨h10, fun d hd => ?_⟩
  unfold PI
  rw [h 11 (by omega), h 12 (by omega), h 14 (by omega)]
  exact ⟨hd, Or.inl rfl⟩
theorem give_14 {L T : PS} {d : Nat} {a : Int} (h : 0 < gvn T d a) : giveS L T d a 14 d = (if (T 11 d + T 12 d) - gvn T d a = 0 then T 10 2 else T 14 d) := by
  unfold giveS giveP giveW giveT
  rw [if_neg (by omega)]
  generalize gvS L T d (gvn T d a) = ts
  by_cases c : T 11 d - ts + (T 12 d - (gvn T d a - ts)) = 0
  · rw [if_pos c, if_pos (show T 11 d + T 12 d - gvn T d a = 0 by omega), upT_self]
  · rw [if_neg c, if_neg (show ¬ T 11 d + T 12 d - gvn T d a = 0 by omega)]
    split <;> simp [upT]
theorem give_gj {L T : PS} {d : Nat} {a : Int} (h0 : 0 ≤ T 10 2) : GJ T (giveS L T d a) := by
  refine ⟨by rw [give_k (by omega)], fun x hx => ?_⟩
  by_cases e : x = d
  · subst e
    by_cases c : 0 < gvn T x a
    · obtain ⟨a1, a2, -⟩ := give_d (L := L) c
      have a3 := give_14 (L := L) c
      unfold PI at hx ⊢
      rw [a1, a2, a3]
      have hm : gvn T x a ≤ T 11 x + T 12 x := by unfold gvn; omega
      split <;> omega
    · have : giveS L T x a = T := by unfold giveS; rw [if_pos (by omega)]
      rw [this]
      exact ⟨hx, Or.inl rfl⟩
  · unfold PI
    rw [give_x e, give_x e, give_x e]
    exact ⟨hx, Or.inl rfl⟩
theorem sh1_gj {L T : PS} {fr : Nat} {a all : Int} (h0 : 0 ≤ T 10 2) : ∀ k, GJ T (sh1 L T fr a all k).1
  | 0 => GJ.rf
  | k + 1 => by
    have i := sh1_gj (L := L) (fr := fr) (a := a) (all := all) h0 k
    exact i.tr (give_gj (by rw [i.1]; exact h0))
theorem sh2_gj {L T : PS} {fr : Nat} {a : Int} (h0 : 0 ≤ T 10 2) : ∀ k, GJ T (sh2 L T fr a k).1
  | 0 => GJ.rf
  | k + 1 => by
    have i := sh2_gj (L := L) (fr := fr) (a := a) h0 k
    exact i.tr (give_gj (by rw [i.1]; exact h0))
theorem share_gj {L T : PS} {fr en' : Nat} {o : Int} (h0 : 0 ≤ T 10 2) : GJ T (shareS L T fr en' o).1 := by
  unfold shareS
  have q : GJ T (if 0 < allL T fr (en' - fr) ∧ o < allL T fr (en' - fr) then sh1 L T fr o (allL T fr (en' - fr)) (en' - fr) else (T, o)).1 := by
    split
    · exact sh1_gj h0 _
    · exact GJ.rf
  exact q.tr (sh2_gj (by rw [q.1]; exact h0) _)
theorem dsL_gj {β L : PS} {n : Nat} : ∀ (F fr : Nat) (T : PS) (o : Int), 0 ≤ T 10 2 → GJ T (dsL β L n F fr T o).1
  | 0, _, _, _, _ => GJ.rf
  | F + 1, fr, T, o, h0 => by
    unfold dsL
    split
    · have q := share_gj (L := L) (fr := fr) (en' := grE β L T n fr n (fr + 1)) (o := o) h0
      exact q.tr (dsL_gj F _ _ _ (by rw [q.1]; exact h0))
    · exact GJ.rf
theorem gj_17 {T : PS} {g : Nat → Int} : GJ T (setT T 17 g) := GJ.k (by rw [setT_d (by omega)]) (fun k hk => setT_d (by omega))
theorem dist_gj {β L T : PS} {a c : Int} (h0 : 0 ≤ T 10 2) : GJ T (distS β L T a c) := by
  have g0 : GJ T (dist0 β T) := GJ.k (by rw [dist0_k (by omega)]) (fun k hk => dist0_k (by omega))
  have g1 : GJ T (dist1 β L T a c).1 := by
    unfold dist1
    split
    · exact g0
    · exact g0.tr (give_gj (by rw [g0.1]; exact h0))
  have g2 : GJ T (dist2 β L T a c).2 := by
    unfold dist2
    split
    · exact g1.tr gj_17
    · exact g1
  have g3 : GJ T (dist3 β L T a c).1 := g2.tr (dsL_gj _ _ _ _ (by rw [g2.1]; exact h0))
  exact g3.tr (GJ.k (upT_x (by omega)) (fun k hk => upT_kk (by omega)))
