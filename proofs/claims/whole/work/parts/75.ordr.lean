theorem cmpN_cg {β β' : PS} {day : Int} {left left' lt lt' : Nat → Int} {a b : Nat} (ha : ∀ c, keyV β day left c a = keyV β' day left' c a) (hb : ∀ c, keyV β day left c b = keyV β' day left' c b) : ∀ n, (∀ k, k < n → lt k = lt' k) → cmpN β day left lt a b n = cmpN β' day left' lt' a b n
  | 0, _ => rfl
  | n + 1, h => by
    unfold cmpN
    rw [cmpN_cg ha hb n (fun k hk => h k (by omega)), h n (by omega), ha, hb]
/-- a place of the order holds a debt that may be paid -/
def gdE (ok : Nat → Bool) (n : Nat) (v : Int) : Prop := ∃ e : Nat, v = e ∧ e < n ∧ ok e = true
theorem insF_hi {cmp : Nat → Nat → Int} {d : Nat} : ∀ (p : Nat) (ord : Nat → Int) (k : Nat), p < k → insF cmp ord d p k = ord k
  | 0, ord, k, h => by unfold insF upd1; rw [if_neg (by omega)]
  | p + 1, ord, k, h => by
    unfold insF
    split
    · rw [insF_hi p _ k (by omega)]
      unfold upd1; rw [if_neg (by omega)]
    · unfold upd1; rw [if_neg (by omega)]
theorem insF_in {cmp : Nat → Nat → Int} {d : Nat} : ∀ (p : Nat) (ord : Nat → Int) (k : Nat), k ≤ p → insF cmp ord d p k = d ∨ ∃ i, i < p ∧ insF cmp ord d p k = ord i
  | 0, ord, k, h => by
    have : k = 0 := by omega
    subst this
    left; unfold insF upd1; rw [if_pos rfl]
  | p + 1, ord, k, h => by
    unfold insF
    split
    · by_cases e : k = p + 1
      · subst e
        right
        refine ⟨p, by omega, ?_⟩
        rw [insF_hi p _ _ (by omega)]
        unfold upd1; rw [if_pos rfl]
      · rcases insF_in p (upd1 ord (p + 1) (ord p)) k (by omega) with g | ⟨i, g1, g2⟩
        · exact Or.inl g
        · refine Or.inr ⟨i, by omega, g2.trans ?_⟩
          unfold upd1; rw [if_neg (by omega)]
    · by_cases e : k = p + 1
      · left; unfold upd1; rw [if_pos e]
      · right
        refine ⟨k, by omega, ?_⟩
        unfold upd1; rw [if_neg e]
theorem insF_nd {cmp : Nat → Nat → Int} {d : Nat} : ∀ (p : Nat) (ord : Nat → Int), (∀ i j, i < p → j < p → i ≠ j → ord i ≠ ord j) → (∀ i, i < p → ord i ≠ d) → ∀ i j, i ≤ p → j ≤ p → i ≠ j → insF cmp ord d p i ≠ insF cmp ord d p j
  | 0, ord, _, _, i, j, h1, h2, h3 => by omega
  | p + 1, ord, hn, hd, i, j, h1, h2, h3 => by
    unfold insF
    split
    · have q : ∀ x, x < p → upd1 ord (p + 1) (ord p) x = ord x := fun x hx => by unfold upd1; rw [if_neg (by omega)]
      have qt : ∀ P, insF cmp (upd1 ord (p + 1) (ord p)) d p (p + 1) = P ↔ ord p = P := fun P => by
        rw [insF_hi p _ _ (by omega)]
        unfold upd1; rw [if_pos rfl]
      have qi : ∀ x, x ≤ p → insF cmp (upd1 ord (p + 1) (ord p)) d p x ≠ ord p := fun x hx g => by
        rcases insF_in (cmp := cmp) (d := d) p (upd1 ord (p + 1) (ord p)) x hx with g1 | ⟨z, g1, g2⟩
        · exact hd p (by omega) (g.symm.trans g1)
        · rw [q z g1] at g2
          exact hn z p (by omega) (by omega) (by omega) (g2.symm.trans g)
      by_cases e1 : i = p + 1
      · subst e1
        intro g
        have g2 := (qt _).mp g
        exact qi j (by omega) g2.symm
      · by_cases e2 : j = p + 1
        · subst e2
          intro g
          have g2 := (qt _).mp g.symm
          exact qi i (by omega) g2.symm
        · exact insF_nd p _ (fun a b ha hb hab => by rw [q a ha, q b hb]; exact hn a b (by omega) (by omega) hab) (fun a ha => by rw [q a ha]; exact hd a (by omega)) i j (by omega) (by omega) h3
    · unfold upd1
      by_cases e1 : i = p + 1
      · rw [if_pos e1, if_neg (by omega)]
        exact fun g => hd j (by omega) g.symm
      · rw [if_neg e1]
        by_cases e2 : j = p + 1
        · rw [if_pos e2]
          exact hd i (by omega)
        · rw [if_neg e2]
          exact hn i j (by omega) (by omega) h3
theorem insF_cg {cmp cmp' : Nat → Nat → Int} {ok : Nat → Bool} {n d : Nat} (hc : ∀ a b, a ≤ n → b ≤ n → ok a = true → ok b = true → cmp a b = cmp' a b) (hd : d ≤ n) (hok : ok d = true) : ∀ (p : Nat) (ord ord' : Nat → Int), (∀ k, k < p → ord k = ord' k ∧ gdE ok (n + 1) (ord k)) → ∀ k, k ≤ p → insF cmp ord d p k = insF cmp' ord' d p k
  | 0, ord, ord', h, k, hk => by
    have : k = 0 := by omega
    subst this
    unfold insF upd1
    rw [if_pos rfl, if_pos rfl]
  | p + 1, ord, ord', h, k, hk => by
    obtain ⟨e1, x, e2, e3, e4⟩ := h p (by omega)
    have ce : cmp d (ord p).toNat = cmp' d (ord' p).toNat := by
      rw [← e1, e2, Int.toNat_natCast]
      exact hc d x hd (by omega) hok e4
    unfold insF
    rw [ce]
    split
    · by_cases e : k = p + 1
      · subst e
        rw [insF_hi p _ _ (by omega), insF_hi p _ _ (by omega)]
        unfold upd1; rw [if_pos rfl, if_pos rfl]; exact e1
      · refine insF_cg hc hd hok p _ _ (fun z hz => ?_) k (by omega)
        unfold upd1
        rw [if_neg (by omega), if_neg (by omega)]
        exact h z (by omega)
    · unfold upd1
      by_cases e : k = p + 1
      · rw [if_pos e, if_pos e]
      · rw [if_neg e, if_neg e]
        exact (h k (by omega)).1
theorem ordL_cg {ok ok' : Nat → Bool} {cmp cmp' : Nat → Nat → Int} {o o' : Nat → Int} {N : Nat} (hk : ∀ d, d < N → ok d = ok' d) (hc : ∀ a b, a < N → b < N → ok a = true → ok b = true → cmp a b = cmp' a b) : ∀ n, n ≤ N → (ordL ok cmp o n).1 = (ordL ok' cmp' o' n).1 ∧ (ordL ok cmp o n).1 ≤ n ∧ (∀ k, k < (ordL ok cmp o n).1 → (ordL ok cmp o n).2 k = (ordL ok' cmp' o' n).2 k ∧ gdE ok n ((ordL ok cmp o n).2 k)) ∧ ∀ i j, i < (ordL ok cmp o n).1 → j < (ordL ok cmp o n).1 → i ≠ j → (ordL ok cmp o n).2 i ≠ (ordL ok cmp o n).2 j
  | 0, _ => ⟨rfl, Nat.le_refl 0, fun k h => by have : k < 0 := h; omega, fun i j h => by have : i < 0 := h; omega⟩
  | n + 1, h => by
    obtain ⟨h1, h2, h3, h4⟩ := ordL_cg (o := o) (o' := o') hk hc n (by omega)
    unfold ordL
    rw [← hk n (by omega)]
    by_cases c : ok n = true
    · rw [if_pos c, if_pos c, ← h1]
      have g0 : ∀ k, k < (ordL ok cmp o n).1 → (ordL ok cmp o n).2 k = (ordL ok' cmp' o' n).2 k ∧ gdE ok (n + 1) ((ordL ok cmp o n).2 k) := fun k hk2 => by
        obtain ⟨a1, x, a2, a3, a4⟩ := h3 k hk2
        exact ⟨a1, x, a2, by omega, a4⟩
      have gne : ∀ i, i < (ordL ok cmp o n).1 → (ordL ok cmp o n).2 i ≠ (n : Int) := fun i hi => by
        obtain ⟨-, x, a2, a3, a4⟩ := h3 i hi
        omega
      refine ⟨rfl, by omega, fun k hk2 => ⟨?_, ?_⟩, fun i j hi hj hij => ?_⟩
      · exact insF_cg (fun a b ha hb => hc a b (by omega) (by omega)) (Nat.le_refl n) c _ _ _ g0 k (by omega)
      · rcases insF_in (cmp := cmp) (d := n) (ordL ok cmp o n).1 (ordL ok cmp o n).2 k (by omega) with g | ⟨i, g1, g2⟩
        · exact ⟨n, g, by omega, c⟩
        · have g3 := (g0 i g1).2
          rw [← g2] at g3
          exact g3
      · exact insF_nd _ _ h4 gne i j (by omega) (by omega) hij
    · rw [if_neg c, if_neg c]
      refine ⟨h1, by omega, fun k hk2 => ?_, h4⟩
      obtain ⟨a1, x, a2, a3, a4⟩ := h3 k hk2
      exact ⟨a1, x, a2, by omega, a4⟩
theorem key_eq {β L T D : PS} {l d : Nat} {y : Int} (hC : CR β L D l) (h : DR β T D y) (hd : (d : Int) < β 12 0) (ho : 0 < D 39 d + D 40 d) (c : Int) : keyV β (T 10 2) (fun x => T 11 x + T 12 x) c d = keyV (bkM D) y (fun x => D 39 x + D 40 x) c d := by
  have f := hC.1.2.2.1 d hd
  obtain ⟨s1, s2, s3⟩ := op_since h hd ho
  have e : (fun x => T 11 x + T 12 x) d = (fun x => D 39 x + D 40 x) d := by
    show T 11 d + T 12 d = D 39 d + D 40 d
    rw [s2, s3]
  unfold keyV
  rw [f 1 (by omega), f 2 (by omega), f 3 (by omega), f 5 (by omega), f 6 (by omega), h.1, e]
theorem ok_eq {β L T D : PS} {l d : Nat} {y : Int} (hC : CR β L D l) (h : GR β T D y) (hd : (d : Int) < β 12 0) : okS1 β L T d = okM D l d := by
  have hb : hasB L 120 ↔ hasM D l 120 := hC.bit (c := 120) (by omega) (by omega)
  unfold okS1 okM
  rw [(h.2 d hd).1]
  congr 1
  · exact decide_eq_decide.mpr (op_iff h.1 hd)
  · congr 2
    exact decide_eq_decide.mpr hb
theorem okM_op {D : PS} {l d : Nat} (h : okM D l d = true) : 0 < D 39 d + D 40 d := by
  unfold okM at h
  rw [Bool.and_eq_true] at h
  exact of_decide_eq_true h.1
theorem cmp_eq {β L T D : PS} {l a b : Nat} {y : Int} (hC : CR β L D l) (h : DR β T D y) (ha : (a : Int) < β 12 0) (hb : (b : Int) < β 12 0) (hoa : 0 < D 39 a + D 40 a) (hob : 0 < D 39 b + D 40 b) : cmpS β L T a b = cmM D l y a b := by
  unfold cmpS cmM
  have e : L 0 0 = D 37 l := hC.2.1.1
  rw [e, h.1]
  refine cmpN_cg (fun c => ?_) (fun c => ?_) _ (fun k hk => hC.2.1.2.1 k (by omega))
  · have := key_eq hC h ha hoa c
    rw [h.1] at this
    exact this
  · have := key_eq hC h hb hob c
    rw [h.1] at this
    exact this
/-- the order of the debts, class and model -/
theorem ord_sim {β L T D : PS} {l : Nat} {y : Int} (hC : CR β L D l) (h : GR β T D y) : (ordS β L T).1 = (orM D l y).1 ∧ ((ordS β L T).1 : Int) ≤ β 12 0 ∧ (∀ k, k < (ordS β L T).1 → (ordS β L T).2 k = (orM D l y).2 k ∧ ∃ e : Nat, (ordS β L T).2 k = e ∧ (e : Int) < β 12 0 ∧ 0 < D 39 e + D 40 e) ∧ ∀ i j, i < (ordS β L T).1 → j < (ordS β L T).1 → i ≠ j → (ordS β L T).2 i ≠ (ordS β L T).2 j := by
  have hn : β 12 0 = D 29 0 := hC.1.1
  have h8 := hC.2.2.2.1
  unfold ordS orM
  rw [← hn]
  have hk : ∀ d, d < (β 12 0).toNat → okS1 β L T d = okM D l d := fun d hd => ok_eq hC h (by omega)
  have hop : ∀ d, d < (β 12 0).toNat → okS1 β L T d = true → 0 < D 39 d + D 40 d := fun d hd ho => by
    rw [hk d hd] at ho
    exact okM_op ho
  obtain ⟨h1, h2, h3, h4⟩ := ordL_cg (cmp := cmpS β L T) (cmp' := cmM D l y) (o := T 17) (o' := D 47) hk (fun a b ha hb hoa hob => cmp_eq hC h.1 (by omega) (by omega) (hop a ha hoa) (hop b hb hob)) (β 12 0).toNat (Nat.le_refl _)
  refine ⟨h1, by omega, fun k hk2 => ?_, h4⟩
  obtain ⟨a1, e, a2, a3, a4⟩ := h3 k hk2
  exact ⟨a1, e, a2, by omega, hop e a3 a4⟩
