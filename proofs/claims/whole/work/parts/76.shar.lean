theorem nt_k {S : PS} {l d : Nat} {a y : Int} {k : Nat} (h : k ≠ 39 ∧ k ≠ 40 ∧ k ≠ 41 ∧ k ≠ 42 ∧ k ≠ 43 ∧ k ≠ 44) : ntS S l d a y k = S k := by
  unfold ntS ntW ntA
  split
  · rw [upT_kk (by omega), upT_kk (by omega), upT_kk (by omega), upT_kk (by omega), upT_kk (by omega), upT_kk (by omega)]
  · rw [upT_kk (by omega), upT_kk (by omega), upT_kk (by omega), upT_kk (by omega)]
theorem nt_wf {S : PS} {l d : Nat} {a y : Int} : WF S (ntS S l d a y) := ⟨fun k hk h29 => nt_k (by omega), fun x hx => by rw [nt_k (by omega)]⟩
theorem give_0 {L T : PS} {d : Nat} {a : Int} (h : a ≤ 0) : giveS L T d a = T ∧ giveR T d a = 0 := by
  unfold giveS giveR gvn
  rw [if_pos (by omega), if_pos (by omega)]
  exact ⟨rfl, rfl⟩
theorem give_min {L T : PS} {d : Nat} {a a' : Int} (h : gvn T d a = gvn T d a') : giveS L T d a = giveS L T d a' ∧ giveR T d a = giveR T d a' := by
  unfold giveS giveR
  rw [h]
  exact ⟨rfl, rfl⟩
/-- the debts of a group, in both orders -/
def GP (β T D : PS) (y : Int) (fr n : Nat) : Prop := ∀ k, k < n → ∃ e : Nat, T 17 (fr + k) = e ∧ D 47 (fr + k) = e ∧ (e : Int) < β 12 0 ∧ β 1 e ≤ y
theorem GP.c {β T D T' D' : PS} {y : Int} {fr n : Nat} (h : GP β T D y fr n) (h1 : T' 17 = T 17) (h2 : D' 47 = D 47) : GP β T' D' y fr n := by
  intro k hk
  rw [h1, h2]
  exact h k hk
def ppI (l : Nat) (y : Int) (fr : Nat) (A : PS) (mu : Int) : Nat → PS × Int
  | 0 => (A, mu)
  | k + 1 => (ntS (ppI l y fr A mu k).1 l ((ppI l y fr A mu k).1 47 (fr + k)).toNat ((ppI l y fr A mu k).1 48 (fr + k)) y, (ppI l y fr A mu k).2 - ntR (ppI l y fr A mu k).1 l ((ppI l y fr A mu k).1 47 (fr + k)).toNat ((ppI l y fr A mu k).1 48 (fr + k)))
theorem pp1_ppI {l : Nat} {y : Int} {fr : Nat} {A : PS} {mu : Int} : ∀ f k, pp1 l y f (fr + k) (ppI l y fr A mu k).1 (ppI l y fr A mu k).2 = ppI l y fr A mu (k + f)
  | 0, k => rfl
  | f + 1, k => by
    unfold pp1
    have := pp1_ppI (l := l) (y := y) (fr := fr) (A := A) (mu := mu) f (k + 1)
    rw [show k + (f + 1) = k + 1 + f by omega, ← this]
    rfl
theorem pp1_eq {l : Nat} {y : Int} {fr n : Nat} {A : PS} {mu : Int} : pp1 l y n fr A mu = ppI l y fr A mu n := by
  have := pp1_ppI (l := l) (y := y) (fr := fr) (A := A) (mu := mu) n 0
  rw [show 0 + n = n by omega] at this
  exact this
theorem ppI_wf {l : Nat} {y : Int} {fr : Nat} {A : PS} {mu : Int} : ∀ k, WF A (ppI l y fr A mu k).1 ∧ (ppI l y fr A mu k).1 47 = A 47 ∧ (ppI l y fr A mu k).1 48 = A 48 ∧ (ppI l y fr A mu k).1 29 = A 29
  | 0 => ⟨WF.rf, rfl, rfl, rfl⟩
  | k + 1 => by
    obtain ⟨h1, h2, h3, h4⟩ := ppI_wf (l := l) (y := y) (fr := fr) (A := A) (mu := mu) k
    unfold ppI
    refine ⟨h1.tr nt_wf, ?_, ?_, ?_⟩
    · exact (nt_k (by omega)).trans h2
    · exact (nt_k (by omega)).trans h3
    · exact (nt_k (by omega)).trans h4
/-- the second turn: what is over goes to each in turn -/
theorem sh2_stop {L T : PS} {fr : Nat} {a : Int} {k : Nat} (h : (sh2 L T fr a k).2 ≤ 0) : ∀ j : Nat, sh2 L T fr a (k + j) = sh2 L T fr a k
  | 0 => rfl
  | j + 1 => by
    have ih := sh2_stop h j
    show (giveS L (sh2 L T fr a (k + j)).1 _ (sh2 L T fr a (k + j)).2, (sh2 L T fr a (k + j)).2 - giveR (sh2 L T fr a (k + j)).1 _ (sh2 L T fr a (k + j)).2) = _
    rw [ih, (give_0 (L := L) h).1, (give_0 (L := L) h).2, Int.sub_zero]
theorem sh2_17 {L T : PS} {fr : Nat} {a : Int} : ∀ k, (sh2 L T fr a k).1 17 = T 17
  | 0 => rfl
  | k + 1 => by
    show giveS L (sh2 L T fr a k).1 _ (sh2 L T fr a k).2 17 = _
    rw [give_k (by omega), sh2_17 k]
theorem giveR_le {T : PS} {d : Nat} {a : Int} (h : 0 ≤ a) : 0 ≤ giveR T d a ∧ giveR T d a ≤ a := by
  unfold giveR gvn
  split <;> omega
theorem sh2_sim {β L T : PS} {l fr n : Nat} {y a : Int} (hy : 0 ≤ y) (ha : 0 ≤ a) : ∀ (f k : Nat) (D : PS) (r : Int), k + f = n → CR β L D l → GP β T D y fr n → GR β (sh2 L T fr a k).1 D y → r = (sh2 L T fr a k).2 → 0 ≤ r → GR β (sh2 L T fr a n).1 (pp2 l y f (fr + k) D r) y ∧ WF D (pp2 l y f (fr + k) D r) ∧ pp2 l y f (fr + k) D r 47 = D 47 ∧ pp2 l y f (fr + k) D r 29 = D 29 ∧ pp2 l y f (fr + k) D r 49 = D 49
  | 0, k, D, r, hk, hC, hP, hG, hr, h0 => by
    have : k = n := by omega
    subst this
    exact ⟨hG, WF.rf, rfl, rfl, rfl⟩
  | f + 1, k, D, r, hk, hC, hP, hG, hr, h0 => by
    unfold pp2
    by_cases c : 0 < r
    · rw [if_pos c]
      obtain ⟨e, e1, e2, e3, e4⟩ := hP k (by omega)
      obtain ⟨g1, g2⟩ := give_sim (d := e) (a := r) hC hG e3 e4 h0 hy
      rw [e2, Int.toNat_natCast]
      have s1 : sh2 L T fr a (k + 1) = (giveS L (sh2 L T fr a k).1 e r, r - giveR (sh2 L T fr a k).1 e r) := by
        show (giveS L (sh2 L T fr a k).1 (T 17 (fr + k)).toNat (sh2 L T fr a k).2, (sh2 L T fr a k).2 - giveR (sh2 L T fr a k).1 (T 17 (fr + k)).toNat (sh2 L T fr a k).2) = _
        rw [e1, Int.toNat_natCast, ← hr]
      have b := giveR_le (T := (sh2 L T fr a k).1) (d := e) h0
      obtain ⟨i1, i2, i3, i4, i5⟩ := sh2_sim hy ha f (k + 1) (ntS D l e r y) (r - ntR D l e r) (by omega) (hC.wf nt_wf) (hP.c rfl (nt_k (by omega))) (by rw [s1]; exact g1) (by rw [s1, g2]) (by omega)
      rw [show fr + k + 1 = fr + (k + 1) by omega]
      exact ⟨i1, nt_wf.tr i2, by rw [i3, nt_k (by omega)], by rw [i4, nt_k (by omega)], by rw [i5, nt_k (by omega)]⟩
    · rw [if_neg c]
      have s1 := sh2_stop (L := L) (T := T) (fr := fr) (a := a) (k := k) (by omega) (f + 1)
      rw [hk] at s1
      rw [s1]
      exact ⟨hG, WF.rf, rfl, rfl, rfl⟩
