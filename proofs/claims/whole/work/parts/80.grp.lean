theorem sg_0 {x y : Int} : sg x y = 0 ↔ x = y := by
  unfold sg
  split
  · omega
  · split <;> omega
theorem cmpN_0 {β : PS} {day : Int} {left lt : Nat → Int} {a b : Nat} : ∀ n, cmpN β day left lt a b n = 0 ↔ ∀ i, i < n → keyV β day left (lt i) a = keyV β day left (lt i) b
  | 0 => ⟨fun _ i h => by omega, fun _ => rfl⟩
  | n + 1 => by
    have ih := cmpN_0 (β := β) (day := day) (left := left) (lt := lt) (a := a) (b := b) n
    unfold cmpN
    by_cases c : cmpN β day left lt a b n = 0
    · rw [if_pos c, sg_0]
      constructor
      · intro h i hi
        by_cases e : i = n
        · subst e; exact h
        · exact ih.mp c i (by omega)
      · intro h; exact h n (by omega)
    · rw [if_neg c]
      constructor
      · intro h; exact absurd h c
      · intro h; exact absurd (ih.mpr (fun i hi => h i (by omega))) c
theorem cmM_tr {S : PS} {l : Nat} {y : Int} {a b c : Nat} (h1 : cmM S l y a b = 0) : cmM S l y a c = 0 ↔ cmM S l y b c = 0 := by
  unfold cmM at *
  rw [cmpN_0] at h1
  rw [cmpN_0, cmpN_0]
  constructor
  · intro h i hi; rw [← h1 i hi]; exact h i hi
  · intro h i hi; rw [h1 i hi]; exact h i hi
theorem cmM_rf {S : PS} {l : Nat} {y : Int} {a : Nat} : cmM S l y a a = 0 := by
  unfold cmM
  rw [cmpN_0]
  exact fun _ _ => rfl
/-- the leaders of the groups -/
theorem gpL_hi {S : PS} {l : Nat} {y : Int} : ∀ n m x, x < n → n ≤ m → gpL S l y m 49 x = gpL S l y n 49 x := by
  intro n m
  induction m with
  | zero => intro x h1 h2; omega
  | succ m ih =>
    intro x h1 h2
    by_cases e : n = m + 1
    · subst e; rfl
    · refine Eq.trans ?_ (ih x h1 (by omega))
      show upT (gpL S l y m) 49 m _ 49 x = _
      rw [upT_x (by omega)]
theorem gpL_at {S : PS} {l : Nat} {y : Int} {n k : Nat} (h : k < n) : gpL S l y n 49 k = if 0 < k ∧ cmM S l y (S 47 (k - 1)).toNat (S 47 k).toNat = 0 then gpL S l y n 49 (k - 1) else k := by
  rw [gpL_hi (k + 1) n k (by omega) (by omega)]
  show upT (gpL S l y k) 49 k _ 49 k = _
  rw [upT_self]
  by_cases c : 0 < k ∧ cmM S l y (S 47 (k - 1)).toNat (S 47 k).toNat = 0
  · rw [if_pos c, if_pos c, gpL_hi k n (k - 1) (by omega) (by omega)]
  · rw [if_neg c, if_neg c]
/-- the end of a group: the model's by leaders, the class's by comparing with the first -/
theorem ge_gr {β L T D S : PS} {l fr n : Nat} {y : Int} (hl : hasB L 112) (hlt : fr < n) (hG : ∀ k, k < n → D 49 k = if 0 < k ∧ cmM S l y (S 47 (k - 1)).toNat (S 47 k).toNat = 0 then D 49 (k - 1) else k) (h1 : D 49 fr = fr) (hc : ∀ e, fr < e → e < n → (cmpS β L T (T 17 fr).toNat (T 17 e).toNat = 0 ↔ cmM S l y (S 47 fr).toNat (S 47 e).toNat = 0)) : ∀ (f f' e : Nat), fr < e → e ≤ n → f = n - e → n - e ≤ f' → D 49 (e - 1) = fr → cmM S l y (S 47 fr).toNat (S 47 (e - 1)).toNat = 0 → geL (D 49) n fr f e = grE β L T n fr f' e
  | 0, f', e, he, hen, hf, hf', _, _ => by
    have : e = n := by omega
    subst this
    cases f' with
    | zero => rfl
    | succ f' => unfold grE geL; rw [if_neg (fun h => by omega)]
  | f + 1, f', e, he, hen, hf, hf', hg, hq => by
    cases f' with
    | zero => omega
    | succ f' =>
      have he2 : e < n := by omega
      have k1 := hG e he2
      unfold grE geL
      by_cases c : cmM S l y (S 47 (e - 1)).toNat (S 47 e).toNat = 0
      · have c2 : cmM S l y (S 47 fr).toNat (S 47 e).toNat = 0 := (cmM_tr hq).mpr c
        rw [if_pos (show 0 < e ∧ cmM S l y (S 47 (e - 1)).toNat (S 47 e).toNat = 0 from ⟨by omega, c⟩), hg] at k1
        rw [if_pos (show e < n ∧ D 49 e = fr from ⟨he2, k1⟩), if_pos (show hasB L 112 ∧ e < n ∧ cmpS β L T (T 17 fr).toNat (T 17 e).toNat = 0 from ⟨hl, he2, (hc e he he2).mpr c2⟩)]
        exact ge_gr hl hlt hG h1 hc f f' (e + 1) (by omega) (by omega) (by omega) (by omega) (by rw [show e + 1 - 1 = e by omega]; exact k1) (by rw [show e + 1 - 1 = e by omega]; exact c2)
      · have c2 : ¬ cmM S l y (S 47 fr).toNat (S 47 e).toNat = 0 := fun h => c ((cmM_tr hq).mp h)
        rw [if_neg (show ¬ (0 < e ∧ cmM S l y (S 47 (e - 1)).toNat (S 47 e).toNat = 0) from fun h => c h.2)] at k1
        rw [if_neg (show ¬ (e < n ∧ D 49 e = fr) from fun h => by omega), if_neg (show ¬ (hasB L 112 ∧ e < n ∧ cmpS β L T (T 17 fr).toNat (T 17 e).toNat = 0) from fun h => c2 ((hc e he he2).mp h.2.2))]
