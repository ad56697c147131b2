theorem GR.c {β T D D' : PS} {y : Int} (h : GR β T D y) (hD : ∀ k, 39 ≤ k → k ≤ 46 → D' k = D k) : GR β T D' y := by
  refine ⟨h.1.c rfl (fun _ _ => rfl) (fun k hk => hD k (by omega) (by omega)), fun d hd => ?_⟩
  rw [hD 46 (by omega) (by omega), hD 43 (by omega) (by omega), hD 44 (by omega) (by omega)]
  exact h.2 d hd
/-- a full share: each gets what is left of it -/
theorem full_sim {β L T A : PS} {l fr n : Nat} {y o mu : Int} (hy : 0 ≤ y) (hC : CR β L A l) (hP : GP β T A y fr n) (hd : ∀ i j, i < n → j < n → i ≠ j → (T 17 (fr + i)).toNat ≠ (T 17 (fr + j)).toNat) (h0 : ∀ k, k < n → 0 ≤ T 11 (T 17 (fr + k)).toNat ∧ 0 ≤ T 12 (T 17 (fr + k)).toNat) (hG : GR β T A y) (h48 : ∀ k, k < n → A 48 (fr + k) = T 11 (T 17 (fr + k)).toNat + T 12 (T 17 (fr + k)).toNat) (ho : allL T fr n ≤ o) : ∀ k, k ≤ n → GR β (sh2 L T fr o k).1 (ppI l y fr A mu k).1 y ∧ (ppI l y fr A mu k).2 = mu - allL T fr k
  | 0, _ => ⟨hG, by show mu = mu - 0; omega⟩
  | k + 1, hk => by
    obtain ⟨i1, i2⟩ := full_sim (mu := mu) hy hC hP hd h0 hG h48 ho k (by omega)
    obtain ⟨e, e1, e2, e3, e4⟩ := hP k (by omega)
    obtain ⟨w1, w2, w3, w4⟩ := ppI_wf (l := l) (y := y) (fr := fr) (A := A) (mu := mu) k
    have hq := allL_0 h0
    have a0 := (hq n (Nat.le_refl n)).1
    obtain ⟨r1, r2⟩ := sh2_rest (L := L) (a := o) (by omega) hd h0 k (by omega)
    have hx : ∀ q, (sh2 L T fr o k).1 q (T 17 (fr + k)).toNat = T q (T 17 (fr + k)).toNat := r2 _ (fun i hi => hd i k (by omega) (by omega) (by omega))
    have z := h0 k (by omega)
    have hn := (hq (k + 1) hk).2
    have al1 : allL T fr (k + 1) = allL T fr k + (T 11 (T 17 (fr + k)).toNat + T 12 (T 17 (fr + k)).toNat) := rfl
    rw [al1] at hn ⊢
    rw [e1, Int.toNat_natCast] at hx z hn ⊢
    have am : (ppI l y fr A mu k).1 48 (fr + k) = T 11 e + T 12 e := by
      rw [w3, h48 k (by omega), e1, Int.toNat_natCast]
    have gm : gvn (sh2 L T fr o k).1 e (sh2 L T fr o k).2 = gvn (sh2 L T fr o k).1 e (T 11 e + T 12 e) := by
      unfold gvn
      rw [hx, hx, r1]
      omega
    obtain ⟨g1, g2⟩ := give_sim (d := e) (a := T 11 e + T 12 e) (hC.wf w1) i1 e3 e4 (by omega) hy
    have s1 : (sh2 L T fr o (k + 1)).1 = giveS L (sh2 L T fr o k).1 e (T 11 e + T 12 e) := by
      show giveS L (sh2 L T fr o k).1 (T 17 (fr + k)).toNat (sh2 L T fr o k).2 = _
      rw [e1, Int.toNat_natCast]
      exact (give_min gm).1
    have s2 : ppI l y fr A mu (k + 1) = (ntS (ppI l y fr A mu k).1 l e (T 11 e + T 12 e) y, (ppI l y fr A mu k).2 - ntR (ppI l y fr A mu k).1 l e (T 11 e + T 12 e)) := by
      show (ntS (ppI l y fr A mu k).1 l ((ppI l y fr A mu k).1 47 (fr + k)).toNat ((ppI l y fr A mu k).1 48 (fr + k)) y, (ppI l y fr A mu k).2 - ntR (ppI l y fr A mu k).1 l ((ppI l y fr A mu k).1 47 (fr + k)).toNat ((ppI l y fr A mu k).1 48 (fr + k))) = _
      rw [am, w2, e2, Int.toNat_natCast]
    obtain ⟨-, g3⟩ := give_lf (L := L) (T := (sh2 L T fr o k).1) (d := e) (a := T 11 e + T 12 e) (by omega) (by rw [hx]; exact z.1) (by rw [hx]; exact z.2)
    rw [hx, hx] at g3
    rw [s1, s2]
    refine ⟨g1, ?_⟩
    show (ppI l y fr A mu k).2 - ntR (ppI l y fr A mu k).1 l e (T 11 e + T 12 e) = _
    rw [← g2, g3, i2]
    omega
theorem pp2_0 {l : Nat} {y : Int} {n k : Nat} {S : PS} {r : Int} (h : r ≤ 0) : pp2 l y n k S r = S := by
  cases n with
  | zero => rfl
  | succ n => unfold pp2; rw [if_neg (by omega)]
theorem ppI_49 {l : Nat} {y : Int} {fr : Nat} {A : PS} {mu : Int} : ∀ k, (ppI l y fr A mu k).1 49 = A 49
  | 0 => rfl
  | k + 1 => (nt_k (by omega)).trans (ppI_49 k)
theorem pp2_49 {l : Nat} {y : Int} : ∀ (n k : Nat) (S : PS) (r : Int), pp2 l y n k S r 49 = S 49
  | 0, _, _, _ => rfl
  | n + 1, k, S, r => by
    unfold pp2
    split
    · rw [pp2_49 n, nt_k (by omega)]
    · rfl
theorem share_A {β L T D A : PS} {l fr n : Nat} {y o mu all : Int} (hy : 0 ≤ y) (h0 : 0 ≤ o) (hC : CR β L A l) (hP : GP β T A y fr n) (hd : ∀ i j, i < n → j < n → i ≠ j → T 17 (fr + i) ≠ T 17 (fr + j)) (hd2 : ∀ i j, i < n → j < n → i ≠ j → (T 17 (fr + i)).toNat ≠ (T 17 (fr + j)).toNat) (hpos : ∀ k, k < n → 0 ≤ T 11 (T 17 (fr + k)).toNat ∧ 0 ≤ T 12 (T 17 (fr + k)).toNat) (hG : GR β T A y) (hall : all = allL T fr n) (hmu : mu = min o all) (h48 : ∀ k, k < n → A 48 (fr + k) = if all = 0 then 0 else mu * (T 11 (T 17 (fr + k)).toNat + T 12 (T 17 (fr + k)).toNat) / all) (h29 : A 29 15 = o - mu) (q : PS × Int) (hq : q = if 0 < all ∧ o < all then sh1 L T fr o all n else (T, o)) : GR β (sh2 L q.1 fr q.2 n).1 (ppT l y n fr A mu) y ∧ ppT l y n fr A mu 29 15 = (sh2 L q.1 fr q.2 n).2 ∧ 0 ≤ (sh2 L q.1 fr q.2 n).2 ∧ WF A (ppT l y n fr A mu) ∧ ppT l y n fr A mu 47 = A 47 := by
  have ha0 := allL_0 hpos
  have hall0 := (ha0 n (Nat.le_refl n)).1
  obtain ⟨w1, w2, w3, w4⟩ := ppI_wf (l := l) (y := y) (fr := fr) (A := A) (mu := mu) n
  unfold ppT
  rw [pp1_eq]
  by_cases c : 0 < all ∧ o < all
  · rw [if_pos c] at hq
    have hm : mu = o := by omega
    subst hm
    obtain ⟨s1, s2, s3, s4, s5⟩ := sh1_sim (L := L) (l := l) (all := all) hy h0 c.1 hC hP hd hG (fun k hk => by rw [h48 k hk, if_neg (by omega)]) n (Nat.le_refl n)
    obtain ⟨t1, t2⟩ := sh1_sum (L := L) hd2 hpos h0 c.1 n (Nat.le_refl n)
    rw [← hq] at s1 s2 s3 s4 s5 t1 t2
    have r0 : 0 ≤ q.2 := by
      have e1 : all * (mu - q.2) ≤ all * mu := by
        rw [← hall, Int.mul_comm mu all] at s3
        exact s3
      have e2 := Int.le_of_mul_le_mul_left e1 c.1
      omega
    obtain ⟨u1, u2, u3, u4, -⟩ := sh2_sim (L := L) (l := l) (fr := fr) (n := n) hy r0 n 0 (ppI l y fr A mu n).1 (ppI l y fr A mu n).2 (by omega) (hC.wf w1) (hP.c s4 w2) s1 (by rw [← s2]; rfl) (by omega)
    rw [show fr + 0 = fr by omega] at u1 u2 u3 u4
    have hx : ∀ k, k < n → 0 ≤ q.1 11 (q.1 17 (fr + k)).toNat ∧ 0 ≤ q.1 12 (q.1 17 (fr + k)).toNat := fun k hk => by
      obtain ⟨e, e1, -, e3, -⟩ := hP k hk
      rw [s4, e1, Int.toNat_natCast]
      have := s1.1.2 e e3
      omega
    obtain ⟨v1, -⟩ := sh2_rest (L := L) (T := q.1) (fr := fr) (n := n) (a := q.2) r0 (by rw [s4]; exact hd2) hx n (Nat.le_refl n)
    have v2 : allL q.1 fr n = all - (mu - q.2) := by
      rw [allL_lfG, s4, t1, ← allL_lfG, hall]
    refine ⟨u1, ?_, by omega, w1.tr u2, by rw [u3, w2]⟩
    rw [u4, w4, h29, v1, v2]
    omega
  · rw [if_neg c] at hq
    subst hq
    have hm : mu = all := by omega
    have h48' : ∀ k, k < n → A 48 (fr + k) = T 11 (T 17 (fr + k)).toNat + T 12 (T 17 (fr + k)).toNat := fun k hk => by
      have z := hpos k hk
      have z2 := ha0 (k + 1) (by omega)
      have z3 := ha0 k (by omega)
      have z4 : allL T fr (k + 1) = allL T fr k + (T 11 (T 17 (fr + k)).toNat + T 12 (T 17 (fr + k)).toNat) := rfl
      rw [h48 k hk]
      by_cases c0 : all = 0
      · rw [if_pos c0]; omega
      · rw [if_neg c0, hm, Int.mul_ediv_cancel_left _ c0]
    obtain ⟨f1, f2⟩ := full_sim (L := L) (l := l) (o := o) (mu := mu) hy hC hP hd2 hpos hG h48' (by omega) n (Nat.le_refl n)
    obtain ⟨v1, -⟩ := sh2_rest (L := L) (T := T) (fr := fr) (n := n) (a := o) h0 hd2 hpos n (Nat.le_refl n)
    rw [pp2_0 (by omega)]
    refine ⟨f1, ?_, ?_, w1, w2⟩
    · rw [w4, h29]
      show _ = (sh2 L T fr o n).2
      omega
    · show 0 ≤ (sh2 L T fr o n).2
      omega
theorem share_sim {β L T D : PS} {l fr en' : Nat} {y o : Int} (hy : 0 ≤ y) (h0 : 0 ≤ o) (ho : D 29 15 = o) (hC : CR β L D l) (hP : GP β T D y fr (en' - fr)) (hd : ∀ i j, i < en' - fr → j < en' - fr → i ≠ j → T 17 (fr + i) ≠ T 17 (fr + j)) (hG : GR β T D y) : GR β (shareS L T fr en' o).1 (ppS D l fr en' y) y ∧ ppS D l fr en' y 29 15 = (shareS L T fr en' o).2 ∧ 0 ≤ (shareS L T fr en' o).2 ∧ WF D (ppS D l fr en' y) ∧ ppS D l fr en' y 47 = D 47 ∧ ppS D l fr en' y 49 = D 49 := by
  generalize hn : en' - fr = n at hP hd
  have hd2 : ∀ i j, i < n → j < n → i ≠ j → (T 17 (fr + i)).toNat ≠ (T 17 (fr + j)).toNat := fun i j hi hj hij => by
    obtain ⟨a, a1, -⟩ := hP i hi
    obtain ⟨b, b1, -⟩ := hP j hj
    have := hd i j hi hj hij
    omega
  have hpos : ∀ k, k < n → 0 ≤ T 11 (T 17 (fr + k)).toNat ∧ 0 ≤ T 12 (T 17 (fr + k)).toNat := fun k hk => by
    obtain ⟨e, e1, -, e3, -⟩ := hP k hk
    rw [e1, Int.toNat_natCast]
    have := hG.1.2 e e3
    omega
  have hap : ∀ k, k ≤ n → apL D fr k = allL T fr k := by
    intro k
    induction k with
    | zero => intro _; rfl
    | succ k ih =>
      intro hk
      obtain ⟨e, e1, e2, e3, e4⟩ := hP k (by omega)
      obtain ⟨a1, a2, -⟩ := hG.1.2 e e3
      unfold apL allL
      rw [ih (by omega), e1, e2, Int.toNat_natCast, a1, a2, if_pos e4]
  have hall := (allL_0 hpos n (Nat.le_refl n)).1
  obtain ⟨p1, p2⟩ := ppL_at (S := upT D 29 15 (D 29 15 - ppO D (allL T fr n))) (fr := fr) (mu := ppO D (allL T fr n)) (al := allL T fr n) n
  have hk : ∀ k, k ≠ 29 → k ≠ 48 → ppA D fr n (allL T fr n) k = D k := fun k h1 h2 => (p1 k h2).trans (upT_kk h1)
  have hW : WF D (ppA D fr n (allL T fr n)) := ⟨fun k h1 h2 => hk k h2 (by omega), fun x hx => by
    have := congrFun (p1 29 (by omega)) x
    exact this.trans (upT_x hx)⟩
  have key := share_A (L := L) (l := l) (A := ppA D fr n (allL T fr n)) (D := D) (o := o) (mu := ppO D (allL T fr n)) hy h0 (hC.wf hW) (hP.c rfl (hk 47 (by omega) (by omega))) hd hd2 hpos (hG.c (fun k h1 h2 => hk k (by omega) (by omega))) rfl (by unfold ppO; rw [ho]) (fun k hk2 => by
    obtain ⟨e, e1, e2, e3, e4⟩ := hP k hk2
    obtain ⟨a1, a2, -⟩ := hG.1.2 e e3
    refine (p2 k hk2).trans ?_
    unfold ppV
    rw [upT_kk (by omega), upT_kk (by omega), upT_kk (by omega), e1, e2, Int.toNat_natCast, a1, a2, if_pos e4]) (by
    have := congrFun (p1 29 (by omega)) 15
    refine this.trans ?_
    rw [upT_self, ho]) _ rfl
  have sE : shareS L T fr en' o = sh2 L (if 0 < allL T fr n ∧ o < allL T fr n then sh1 L T fr o (allL T fr n) n else (T, o)).1 fr (if 0 < allL T fr n ∧ o < allL T fr n then sh1 L T fr o (allL T fr n) n else (T, o)).2 n := by
    unfold shareS
    rw [hn]
  unfold ppS
  rw [hn, hap n (Nat.le_refl n), sE]
  obtain ⟨k1, k2, k3, k4, k5⟩ := key
  refine ⟨k1, k2, k3, hW.tr k4, k5.trans (hk 47 (by omega) (by omega)), ?_⟩
  unfold ppT
  rw [pp1_eq, pp2_49, ppI_49]
  exact hk 49 (by omega) (by omega)
