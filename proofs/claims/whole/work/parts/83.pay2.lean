theorem cmpS_cg {β L T T0 : PS} {a b : Nat} (h10 : T 10 2 = T0 10 2) (ha : T 11 a = T0 11 a ∧ T 12 a = T0 12 a) (hb : T 11 b = T0 11 b ∧ T 12 b = T0 12 b) : cmpS β L T a b = cmpS β L T0 a b := by
  unfold cmpS
  rw [h10]
  refine cmpN_cg (fun c => ?_) (fun c => ?_) _ (fun _ _ => rfl)
  · unfold keyV
    have e : (fun x => T 11 x + T 12 x) a = (fun x => T0 11 x + T0 12 x) a := by
      show T 11 a + T 12 a = T0 11 a + T0 12 a
      rw [ha.1, ha.2]
    rw [e]
  · unfold keyV
    have e : (fun x => T 11 x + T 12 x) b = (fun x => T0 11 x + T0 12 x) b := by
      show T 11 b + T 12 b = T0 11 b + T0 12 b
      rw [hb.1, hb.2]
    rw [e]
theorem geL_spec {g : Nat → Int} {n k : Nat} : ∀ (f e : Nat), f = n - e → e ≤ n → e ≤ geL g n k f e ∧ geL g n k f e ≤ n ∧ (∀ x, e ≤ x → x < geL g n k f e → g x = k) ∧ (geL g n k f e < n → g (geL g n k f e) ≠ k)
  | 0, e, hf, he => by
    show e ≤ e ∧ e ≤ n ∧ (∀ x, e ≤ x → x < e → g x = k) ∧ (e < n → g e ≠ k)
    exact ⟨Nat.le_refl e, he, fun x h1 h2 => by omega, fun h => by omega⟩
  | f + 1, e, hf, he => by
    unfold geL
    by_cases c : e < n ∧ g e = k
    · rw [if_pos c]
      obtain ⟨h1, h2, h3, h4⟩ := geL_spec (g := g) (n := n) (k := k) f (e + 1) (by omega) (by omega)
      refine ⟨by omega, h2, fun x hx1 hx2 => ?_, h4⟩
      by_cases e2 : x = e
      · subst e2; exact c.2
      · exact h3 x (by omega) hx2
    · rw [if_neg c]
      exact ⟨Nat.le_refl e, he, fun x h1 h2 => by omega, fun h h2 => c ⟨h, h2⟩⟩
theorem pm_skip {l : Nat} {y : Int} {n : Nat} {D : PS} (h : hasM D l 112) : ∀ (c a g : Nat), g - a = c → a ≤ g → g ≤ n → (∀ k, a ≤ k → k < g → D 49 k ≠ k) → pmL l y n (n - a) a D = pmL l y n (n - g) g D
  | 0, a, g, hc, ha, hg, hk => by
    have : a = g := by omega
    subst this; rfl
  | c + 1, a, g, hc, ha, hg, hk => by
    rw [show n - a = (n - (a + 1)) + 1 by omega]
    have p : pm1 l y n a D = D := by
      unfold pm1
      rw [if_pos h, if_neg (hk a (Nat.le_refl a) (by omega))]
    show pmL l y n (n - (a + 1)) (a + 1) (pm1 l y n a D) = _
    rw [p]
    exact pm_skip h c (a + 1) g (by omega) (by omega) hg (fun k h1 h2 => hk k (by omega) h2)
theorem sh1_0 {L T : PS} {fr : Nat} {all : Int} : ∀ k, sh1 L T fr 0 all k = (T, 0)
  | 0 => rfl
  | k + 1 => by
    show (giveS L (sh1 L T fr 0 all k).1 _ (0 * _ / all), (sh1 L T fr 0 all k).2 - giveR (sh1 L T fr 0 all k).1 _ (0 * _ / all)) = _
    rw [sh1_0 k, Int.zero_mul, Int.zero_ediv, (give_0 (L := L) (Int.le_refl 0)).1, (give_0 (L := L) (Int.le_refl 0)).2]
    rfl
theorem share_0 {L T : PS} {fr en' : Nat} : shareS L T fr en' 0 = (T, 0) := by
  have s2 : ∀ k, sh2 L T fr 0 k = (T, 0) := fun k => by
    have := sh2_stop (L := L) (T := T) (fr := fr) (a := 0) (k := 0) (Int.le_refl 0) k
    rw [show 0 + k = k by omega] at this
    exact this
  unfold shareS
  by_cases c : 0 < allL T fr (en' - fr) ∧ 0 < allL T fr (en' - fr)
  · simp only [if_pos c, sh1_0]
    exact s2 _
  · simp only [if_neg c]
    exact s2 _
