theorem mul_two {c x g a z w : Int} (h1 : c * x ≤ a * z) (h2 : c * g ≤ a * w) : c * (x + g) ≤ a * (z + w) := by
  rw [Int.mul_add, Int.mul_add]
  exact Int.add_le_add h1 h2
theorem sh1_sim {β L T A : PS} {l fr n : Nat} {y a all : Int} (hy : 0 ≤ y) (ha : 0 ≤ a) (hall : 0 < all) (hC : CR β L A l) (hP : GP β T A y fr n) (hd : ∀ i j, i < n → j < n → i ≠ j → T 17 (fr + i) ≠ T 17 (fr + j)) (hG : GR β T A y) (h48 : ∀ k, k < n → A 48 (fr + k) = a * (T 11 (T 17 (fr + k)).toNat + T 12 (T 17 (fr + k)).toNat) / all) : ∀ k, k ≤ n → GR β (sh1 L T fr a all k).1 (ppI l y fr A a k).1 y ∧ (sh1 L T fr a all k).2 = (ppI l y fr A a k).2 ∧ all * (a - (sh1 L T fr a all k).2) ≤ a * allL T fr k ∧ (sh1 L T fr a all k).1 17 = T 17 ∧ ∀ x : Nat, (∀ i, i < k → T 17 (fr + i) ≠ (x : Int)) → ∀ q, (sh1 L T fr a all k).1 q x = T q x
  | 0, _ => ⟨hG, rfl, by show all * (a - a) ≤ a * 0; simp, rfl, fun _ _ _ => rfl⟩
  | k + 1, hk => by
    obtain ⟨i1, i2, i3, i4, i5⟩ := sh1_sim hy ha hall hC hP hd hG h48 k (by omega)
    obtain ⟨e, e1, e2, e3, e4⟩ := hP k (by omega)
    obtain ⟨w1, w2, w3, w4⟩ := ppI_wf (l := l) (y := y) (fr := fr) (A := A) (mu := a) k
    have hx : ∀ q, (sh1 L T fr a all k).1 q e = T q e := i5 e (fun i hi => by rw [← e1]; exact hd i k (by omega) (by omega) (by omega))
    have hT := hG.1.2 e e3
    have am : (ppI l y fr A a k).1 48 (fr + k) = a * (T 11 e + T 12 e) / all := by
      rw [w3, h48 k (by omega), e1, Int.toNat_natCast]
    have s1 : sh1 L T fr a all (k + 1) = (giveS L (sh1 L T fr a all k).1 e (a * (T 11 e + T 12 e) / all), (sh1 L T fr a all k).2 - giveR (sh1 L T fr a all k).1 e (a * (T 11 e + T 12 e) / all)) := by
      show (giveS L (sh1 L T fr a all k).1 (T 17 (fr + k)).toNat (a * ((sh1 L T fr a all k).1 11 (T 17 (fr + k)).toNat + (sh1 L T fr a all k).1 12 (T 17 (fr + k)).toNat) / all), (sh1 L T fr a all k).2 - giveR (sh1 L T fr a all k).1 (T 17 (fr + k)).toNat (a * ((sh1 L T fr a all k).1 11 (T 17 (fr + k)).toNat + (sh1 L T fr a all k).1 12 (T 17 (fr + k)).toNat) / all)) = _
      rw [e1, Int.toNat_natCast, hx 11, hx 12]
    have s2 : ppI l y fr A a (k + 1) = (ntS (ppI l y fr A a k).1 l e (a * (T 11 e + T 12 e) / all) y, (ppI l y fr A a k).2 - ntR (ppI l y fr A a k).1 l e (a * (T 11 e + T 12 e) / all)) := by
      show (ntS (ppI l y fr A a k).1 l ((ppI l y fr A a k).1 47 (fr + k)).toNat ((ppI l y fr A a k).1 48 (fr + k)) y, (ppI l y fr A a k).2 - ntR (ppI l y fr A a k).1 l ((ppI l y fr A a k).1 47 (fr + k)).toNat ((ppI l y fr A a k).1 48 (fr + k))) = _
      rw [am, w2, e2, Int.toNat_natCast]
    have hm : 0 ≤ a * (T 11 e + T 12 e) / all := Int.ediv_nonneg (Int.mul_nonneg ha (by omega)) (by omega)
    obtain ⟨g1, g2⟩ := give_sim (d := e) (a := a * (T 11 e + T 12 e) / all) (hC.wf w1) i1 e3 e4 hm hy
    have b := giveR_le (T := (sh1 L T fr a all k).1) (d := e) hm
    have m1 : all * (a * (T 11 e + T 12 e) / all) ≤ a * (T 11 e + T 12 e) := Int.mul_ediv_self_le (by omega)
    have m2 : all * giveR (sh1 L T fr a all k).1 e (a * (T 11 e + T 12 e) / all) ≤ all * (a * (T 11 e + T 12 e) / all) := Int.mul_le_mul_of_nonneg_left b.2 (by omega)
    have al1 : allL T fr (k + 1) = allL T fr k + (T 11 e + T 12 e) := by
      show allL T fr k + (T 11 (T 17 (fr + k)).toNat + T 12 (T 17 (fr + k)).toNat) = _
      rw [e1, Int.toNat_natCast]
    rw [s1, s2, al1]
    refine ⟨g1, by rw [i2, g2], ?_, ?_, fun x hx2 q => ?_⟩
    · show all * (a - ((sh1 L T fr a all k).2 - giveR (sh1 L T fr a all k).1 e (a * (T 11 e + T 12 e) / all))) ≤ a * (allL T fr k + (T 11 e + T 12 e))
      have e5 : a - ((sh1 L T fr a all k).2 - giveR (sh1 L T fr a all k).1 e (a * (T 11 e + T 12 e) / all)) = (a - (sh1 L T fr a all k).2) + giveR (sh1 L T fr a all k).1 e (a * (T 11 e + T 12 e) / all) := by omega
      rw [e5]
      exact mul_two i3 (Int.le_trans m2 m1)
    · exact (give_k (by omega)).trans i4
    · have ne : x ≠ e := fun h => hx2 k (by omega) (by rw [e1, h])
      exact (give_x ne).trans (i5 x (fun i hi => hx2 i (by omega)) q)
/-- what is left of a group -/
def lfG (T : PS) (g : Nat → Int) (fr : Nat) : Nat → Int
  | 0 => 0
  | k + 1 => lfG T g fr k + (T 11 (g (fr + k)).toNat + T 12 (g (fr + k)).toNat)
theorem give_lf {L T : PS} {d : Nat} {a : Int} (h : 0 ≤ a) (h1 : 0 ≤ T 11 d) (h2 : 0 ≤ T 12 d) : giveS L T d a 11 d + giveS L T d a 12 d = T 11 d + T 12 d - giveR T d a ∧ giveR T d a = min a (T 11 d + T 12 d) := by
  have hr : giveR T d a = min a (T 11 d + T 12 d) := by
    unfold giveR gvn
    split <;> omega
  refine ⟨?_, hr⟩
  by_cases c : 0 < gvn T d a
  · obtain ⟨g1, g2, -⟩ := give_d (L := L) (T := T) (d := d) (a := a) c
    rw [g1, g2, hr]
    unfold gvn
    omega
  · have e : giveS L T d a = T := by unfold giveS; rw [if_pos (by omega)]
    rw [e, hr]
    unfold gvn at c
    omega
/-- the second turn leaves nothing over, if the group has enough -/
theorem sh2_rest {L T : PS} {fr n : Nat} {a : Int} (ha : 0 ≤ a) (hd : ∀ i j, i < n → j < n → i ≠ j → (T 17 (fr + i)).toNat ≠ (T 17 (fr + j)).toNat) (h0 : ∀ k, k < n → 0 ≤ T 11 (T 17 (fr + k)).toNat ∧ 0 ≤ T 12 (T 17 (fr + k)).toNat) : ∀ k, k ≤ n → (sh2 L T fr a k).2 = max 0 (a - allL T fr k) ∧ ∀ x : Nat, (∀ i, i < k → (T 17 (fr + i)).toNat ≠ x) → ∀ q, (sh2 L T fr a k).1 q x = T q x
  | 0, _ => ⟨by show a = max 0 (a - 0); omega, fun _ _ _ => rfl⟩
  | k + 1, hk => by
    obtain ⟨i1, i2⟩ := sh2_rest (L := L) ha hd h0 k (by omega)
    have hx : ∀ q, (sh2 L T fr a k).1 q (T 17 (fr + k)).toNat = T q (T 17 (fr + k)).toNat := i2 _ (fun i hi => hd i k (by omega) (by omega) (by omega))
    have z := h0 k (by omega)
    obtain ⟨-, g2⟩ := give_lf (L := L) (T := (sh2 L T fr a k).1) (d := (T 17 (fr + k)).toNat) (a := (sh2 L T fr a k).2) (by omega) (by rw [hx]; exact z.1) (by rw [hx]; exact z.2)
    refine ⟨?_, fun x hx2 q => ?_⟩
    · show (sh2 L T fr a k).2 - giveR (sh2 L T fr a k).1 (T 17 (fr + k)).toNat (sh2 L T fr a k).2 = max 0 (a - (allL T fr k + (T 11 (T 17 (fr + k)).toNat + T 12 (T 17 (fr + k)).toNat)))
      rw [g2, hx, hx, i1]
      omega
    · show giveS L (sh2 L T fr a k).1 (T 17 (fr + k)).toNat (sh2 L T fr a k).2 q x = T q x
      exact (give_x (Ne.symm (hx2 k (by omega)))).trans (i2 x (fun i hi => hx2 i (by omega)) q)
