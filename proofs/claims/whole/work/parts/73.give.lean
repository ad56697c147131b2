/-- while a sum is put, at a day -/
def GR (β T D : PS) (y : Int) : Prop := DR β T D y ∧ ∀ d : Nat, (d : Int) < β 12 0 → T 16 d = D 46 d ∧ T 18 d = D 43 d ∧ T 19 d = D 44 d
theorem CR.bit {β L S : PS} {l : Nat} (h : CR β L S l) {c : Nat} (h1 : 97 ≤ c) (h2 : c ≤ 122) : hasB L c ↔ hasM S l (c : Int) := h.2.1.2.2 c h1 h2
theorem give_k {L T : PS} {d : Nat} {a : Int} {k : Nat} (h : 10 = k ∨ 16 = k ∨ 17 = k) : giveS L T d a k = T k := by
  unfold giveS giveP giveW giveT
  split
  · rfl
  · split
    · split
      · repeat rw [upT_kk (by omega)]
      · repeat rw [upT_kk (by omega)]
    · split
      · repeat rw [upT_kk (by omega)]
      · repeat rw [upT_kk (by omega)]
theorem give_x {L T : PS} {d x : Nat} {a : Int} {k : Nat} (h : x ≠ d) : giveS L T d a k x = T k x := by
  unfold giveS giveP giveW giveT
  split
  · rfl
  · split
    · split
      · repeat rw [upT_x h]
      · repeat rw [upT_x h]
    · split
      · repeat rw [upT_x h]
      · repeat rw [upT_x h]
theorem give_d {L T : PS} {d : Nat} {a : Int} (h : 0 < gvn T d a) : giveS L T d a 11 d = T 11 d - gvS L T d (gvn T d a) ∧ giveS L T d a 12 d = T 12 d - (gvn T d a - gvS L T d (gvn T d a)) ∧ giveS L T d a 18 d = T 18 d + gvS L T d (gvn T d a) ∧ giveS L T d a 19 d = T 19 d + (gvn T d a - gvS L T d (gvn T d a)) ∧ giveS L T d a 13 d = T 10 2 ∧ giveS L T d a 15 d = (if T 16 d ≠ 0 ∧ T 15 d = -1 then T 10 2 else T 15 d) := by
  unfold giveS giveP giveW giveT
  rw [if_neg (by omega)]
  generalize gvS L T d (gvn T d a) = ts
  generalize gvn T d a - ts = tr
  by_cases c1 : T 16 d ≠ 0 ∧ T 15 d = -1
  · rw [if_pos c1, if_pos c1]
    split <;> simp [upT]
  · rw [if_neg c1, if_neg c1]
    split <;> simp [upT]
theorem nt_x {S : PS} {l d x : Nat} {a y : Int} {k : Nat} (h : x ≠ d) : ntS S l d a y k x = S k x := by
  unfold ntS ntW ntA
  split
  · repeat rw [upT_x h]
  · repeat rw [upT_x h]
theorem nt_d {S : PS} {l d : Nat} {a y : Int} : ntS S l d a y 39 d = S 39 d - nts S l d a ∧ ntS S l d a y 40 d = S 40 d - ntr S l d a ∧ ntS S l d a y 43 d = S 43 d + nts S l d a ∧ ntS S l d a y 44 d = S 44 d + ntr S l d a ∧ ntS S l d a y 46 d = S 46 d ∧ ntS S l d a y 41 d = (if 0 < ntR S l d a then y else S 41 d) ∧ ntS S l d a y 42 d = (if 0 < ntR S l d a then (if S 46 d ≠ 0 ∧ S 42 d < 0 then y else S 42 d) else S 42 d) := by
  unfold ntS ntW ntA
  generalize nts S l d a = ts
  generalize ntr S l d a = tr
  split <;> simp [upT]
theorem wk {t16 t15 y : Int} (h : -1 ≤ t15) (hy : 0 ≤ y) : (if t16 ≠ 0 ∧ (if t15 = -1 then (-4 : Int) else t15) < 0 then y else (if t15 = -1 then -4 else t15)) = (if (if t16 ≠ 0 ∧ t15 = -1 then y else t15) = -1 then -4 else (if t16 ≠ 0 ∧ t15 = -1 then y else t15)) := by
  by_cases a : t15 = -1
  · subst a
    by_cases b : t16 = 0
    · simp [b]
    · simp [b]; omega
  · have c : ¬ t15 < 0 := by omega
    simp [a, c]
theorem give_sim {β L T D : PS} {l d : Nat} {y a : Int} (hC : CR β L D l) (hG : GR β T D y) (hd : (d : Int) < β 12 0) (hs : β 1 d ≤ y) (ha : 0 ≤ a) (hy : 0 ≤ y) : GR β (giveS L T d a) (ntS D l d a y) y ∧ giveR T d a = ntR D l d a := by
  obtain ⟨⟨h0, h1⟩, h2⟩ := hG
  have hb : hasB L 115 ↔ hasM D l 115 := hC.bit (c := 115) (by omega) (by omega)
  obtain ⟨a1, a2, a3, a4, a5, a6, a7, a8⟩ := h1 d hd
  rw [if_pos hs] at a1
  obtain ⟨b1, b2, b3⟩ := h2 d hd
  have q1 : nts D l d a = (if gvn T d a ≤ 0 then 0 else gvS L T d (gvn T d a)) ∧ ntr D l d a = (if gvn T d a ≤ 0 then 0 else gvn T d a - gvS L T d (gvn T d a)) ∧ ntR D l d a = (if gvn T d a ≤ 0 then 0 else gvn T d a) := by
    unfold ntR nts ntr gvS gvn
    rw [a1, a2]
    by_cases c : hasB L 115
    · rw [if_pos c, if_pos (hb.mp c), if_pos (hb.mp c)]
      split <;> omega
    · rw [if_neg c, if_neg (fun h => c (hb.mpr h)), if_neg (fun h => c (hb.mpr h))]
      split <;> omega
  obtain ⟨q1, q2, q3⟩ := q1
  refine ⟨⟨⟨?_, fun x hx => ?_⟩, fun x hx => ?_⟩, ?_⟩
  · rw [give_k (by omega)]; exact h0
  · by_cases e : x = d
    · subst e
      obtain ⟨n1, n2, n3, n4, n5, n6, n7⟩ := nt_d (S := D) (l := l) (d := x) (a := a) (y := y)
      rw [n1, n2, n6, n7, q1, q2, q3, if_pos hs]
      by_cases c : gvn T x a ≤ 0
      · have e2 : giveS L T x a = T := by unfold giveS; rw [if_pos c]
        rw [e2, if_pos c, if_pos c, if_neg (show ¬ 0 < (if gvn T x a ≤ 0 then (0 : Int) else gvn T x a) by rw [if_pos c]; omega), if_neg (show ¬ 0 < (if gvn T x a ≤ 0 then (0 : Int) else gvn T x a) by rw [if_pos c]; omega)]
        exact ⟨by omega, by omega, fun h => by omega, a4, a5, a6, a7, a8⟩
      · obtain ⟨g1, g2, g3, g4, g5, g6⟩ := give_d (L := L) (T := T) (d := x) (a := a) (by omega)
        rw [g1, g2, g5, g6, if_neg c, if_neg c, if_pos (show 0 < (if gvn T x a ≤ 0 then (0 : Int) else gvn T x a) by rw [if_neg c]; omega), if_pos (show 0 < (if gvn T x a ≤ 0 then (0 : Int) else gvn T x a) by rw [if_neg c]; omega), a5, ← b1, h0]
        have q4 : 0 ≤ T 11 x - gvS L T x (gvn T x a) ∧ 0 ≤ T 12 x - (gvn T x a - gvS L T x (gvn T x a)) := by
          unfold gvS gvn
          split <;> omega
        refine ⟨by omega, by omega, fun h => by omega, rfl, ?_, ?_, q4.1, q4.2⟩
        · exact wk a6 hy
        · split <;> omega
    · rw [give_x e, give_x e, give_x e, give_x e, nt_x e, nt_x e, nt_x e, nt_x e]
      exact h1 x hx
  · by_cases e : x = d
    · subst e
      obtain ⟨n1, n2, n3, n4, n5, n6, n7⟩ := nt_d (S := D) (l := l) (d := x) (a := a) (y := y)
      rw [n3, n4, n5, q1, q2, give_k (by omega)]
      by_cases c : gvn T x a ≤ 0
      · have e2 : giveS L T x a = T := by unfold giveS; rw [if_pos c]
        rw [e2, if_pos c, if_pos c]
        exact ⟨b1, by omega, by omega⟩
      · obtain ⟨g1, g2, g3, g4, g5, g6⟩ := give_d (L := L) (T := T) (d := x) (a := a) (by omega)
        rw [g3, g4, if_neg c, if_neg c]
        exact ⟨b1, by omega, by omega⟩
    · rw [give_x e, give_x e, give_x e, nt_x e, nt_x e, nt_x e]
      exact h2 x hx
  · rw [q3]; rfl
