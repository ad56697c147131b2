-- ===== class and model alike: the frame of it =====
def RlB (m : Mem) (S : PS) : Prop := BkR (bk m 0) (bkM S)
def RlL (m : Mem) (S : PS) : Prop := ∀ l, l < 2 → LwR (lw m l) (S 37 l) (fun k => S 36 (12 * l + k))
def RlT (m : Mem) (S : PS) : Prop := m 24 0 0 1 = S 29 5 ∧ ∀ i : Nat, (i : Int) < m 24 0 0 1 → m 25 0 0 i = S 34 i
def RlS (m : Mem) (S : PS) : Prop := ∀ s, s < 4 → S 56 s = (if m 27 s 0 0 = 0 then -1 else m 27 s 0 3) ∧ S 57 s = m 27 s 0 1 ∧ ∀ i, i < 24 → S 58 (24 * s + i) = m 28 s 0 i
def RlI (m : Mem) (S : PS) : Prop := m 0 0 0 2 = S 29 24 ∧ (m 0 0 0 2 ≠ 0 → BkR (bk m 1) (bkK S) ∧ ∀ l, l < 2 → LwR (lw m (2 + l)) (S 55 (138 + l)) (fun k => S 55 (112 + (12 * l + k)))) ∧ ∀ x, x < 24 → 0 ≤ S 55 (112 + x) ∧ S 55 (112 + x) ≤ 127
def RlA (m : Mem) (S : PS) : Prop := RlB m S ∧ RlL m S ∧ RlT m S ∧ RlS m S ∧ RlI m S
theorem rel_of {m : Mem} (h : Rel m) : RlA m (mv m) := by
  obtain ⟨a, b, c, d, e, f, g⟩ := h
  exact ⟨a, b, ⟨c, d⟩, e, f, g⟩
theorem bk_congr {m m' : Mem} {b b' : Nat} (h1 : m' 1 b' = m 1 b) (h5 : m' 5 b' = m 5 b) (h6 : m' 6 b' = m 6 b) (h7 : m' 7 b' = m 7 b) : bk m' b' = bk m b := by
  funext f d; unfold bk; rw [h1, h5, h6, h7]
theorem lw_congr {m m' : Mem} {q q' : Nat} (h8 : m' 8 q' = m 8 q) (h9 : m' 9 q' = m 9 q) : lw m' q' = lw m q := by
  funext f d; unfold lw; rw [h8, h9]
theorem bkM_congr {S S' : PS} (h1 : S' 31 = S 31) (h3 : S' 33 = S 33) (h0 : S' 29 0 = S 29 0) (h2 : S' 29 2 = S 29 2) : bkM S' = bkM S := by
  funext f d; unfold bkM; rw [h1, h3, h0, h2]
theorem bkK_congr {S S' : PS} (h1 : S' 55 = S 55) : bkK S' = bkK S := by
  funext f d; unfold bkK; rw [h1]
theorem RlB.c {m m' : Mem} {S S' : PS} (h : RlB m S) (e1 : bk m' 0 = bk m 0) (e2 : bkM S' = bkM S) : RlB m' S' := by
  unfold RlB; rw [e1, e2]; exact h
theorem RlL.c {m m' : Mem} {S S' : PS} (h : RlL m S) (e1 : ∀ l, l < 2 → lw m' l = lw m l) (e2 : S' 36 = S 36) (e3 : S' 37 = S 37) : RlL m' S' := by
  intro l hl; rw [e1 l hl, e2, e3]; exact h l hl
theorem RlT.c {m m' : Mem} {S S' : PS} (h : RlT m S) (e1 : m' 24 0 0 1 = m 24 0 0 1) (e2 : m' 25 0 0 = m 25 0 0) (e3 : S' 29 5 = S 29 5) (e4 : S' 34 = S 34) : RlT m' S' := by
  unfold RlT; rw [e1, e2, e3, e4]; exact h
theorem RlS.c {m m' : Mem} {S S' : PS} (h : RlS m S) (e1 : m' 27 = m 27) (e2 : m' 28 = m 28) (e3 : S' 56 = S 56) (e4 : S' 57 = S 57) (e5 : S' 58 = S 58) : RlS m' S' := by
  unfold RlS; rw [e1, e2, e3, e4, e5]; exact h
theorem RlI.c {m m' : Mem} {S S' : PS} (h : RlI m S) (e1 : m' 0 0 0 2 = m 0 0 0 2) (e2 : bk m' 1 = bk m 1) (e3 : ∀ l, l < 2 → lw m' (2 + l) = lw m (2 + l)) (e4 : S' 29 24 = S 29 24) (e5 : S' 55 = S 55) : RlI m' S' := by
  unfold RlI; rw [e1, e2, e4, e5, bkK_congr e5]
  exact ⟨h.1, fun h0 => ⟨(h.2.1 h0).1, fun l hl => by rw [e3 l hl]; exact (h.2.1 h0).2 l hl⟩, h.2.2⟩
theorem up_kj {m : Mem} {k j i x k' j' : Nat} {v : Int} (h : ¬ (k' = k ∧ j' = j)) : up m k j i x v k' j' = m k' j' := by
  funext i' x'
  unfold up
  exact if_neg (fun e => h ⟨e.1, e.2.1⟩)
theorem upT_kk {S : PS} {k x k' : Nat} {v : Int} (h : k' ≠ k) : upT S k x v k' = S k' := by
  funext x'
  exact upT_k h
theorem upK {m : Mem} {k j i x k' : Nat} {v : Int} (h : k' ≠ k) : up m k j i x v k' = m k' := by
  funext j'; exact up_kj (fun e => h e.1)
theorem rel_wr {m : Mem} {S : PS} (h : RlA m S) : Rel (wrM m S) := by
  have e0 : ∀ b, bk (wrM m S) b = bk m b := fun b => bk_congr rfl rfl rfl rfl
  have e1 : ∀ q, lw (wrM m S) q = lw m q := fun q => lw_congr rfl rfl
  have e2 : bkM (mv (wrM m S)) = bkM S := bkM_congr rfl rfl rfl rfl
  have e3 : bkK (mv (wrM m S)) = bkK S := bkK_congr rfl
  obtain ⟨a, b, c, d, e⟩ := h
  unfold Rel
  rw [e0, e0, e2, e3]
  refine ⟨a, fun l hl => by rw [e1]; exact b l hl, c.1, c.2, d, e.1, fun h0 => ⟨(e.2.1 h0).1, fun l hl => by rw [e1]; exact (e.2.1 h0).2 l hl⟩, e.2.2⟩
theorem good_wr {m : Mem} {S : PS} (hI : Inv m) (hS : InvS kM S) (hr : RlA m S) : Good (wrM m S) := ⟨hI.wrM hS, rel_wr hr⟩
theorem good_ok {m : Mem} {S : PS} (hI : Inv m) (h : RlB m S) : mOK S := by
  obtain ⟨h1, h2, h3, h4, -, -⟩ := h
  refine ⟨fun d hd => ?_, fun p hq => ?_⟩
  · have hd' : (d : Int) < bk m 0 12 0 := by rw [h1]; exact hd
    have a0 : m 5 0 d 0 = S 31 (8 * d) := h3 d hd' 0 (by omega)
    have a1 : m 5 0 d 1 = S 31 (8 * d + 1) := h3 d hd' 1 (by omega)
    have a3 : m 6 0 d 4 = S 31 (8 * d + 3) := h3 d hd' 3 (by omega)
    rw [← a0, ← a1, ← a3]
    exact ⟨hI 5 0 d 0, hI 5 0 d 1, hI 6 0 d 4⟩
  · have hq' : (p : Int) < bk m 0 13 0 := by rw [h2]; exact hq
    have a0 : m 7 0 p 0 = S 33 (4 * p) := h4 p hq' 8 (by omega) (by omega)
    have a1 : m 7 0 p 1 = S 33 (4 * p + 1) := h4 p hq' 9 (by omega) (by omega)
    have a2 : m 7 0 p 2 = S 33 (4 * p + 2) := h4 p hq' 10 (by omega) (by omega)
    have a3 : m 7 0 p 3 = S 33 (4 * p + 3) := h4 p hq' 11 (by omega) (by omega)
    rw [← a0, ← a1, ← a2, ← a3]
    exact ⟨hI 7 0 p 0, hI 7 0 p 1, hI 7 0 p 2, hI 7 0 p 3⟩
theorem RlA.c {m m' : Mem} {S S' : PS} (h : RlA m S) (g : Core m m') (w : WG S S') : RlA m' S' := by
  obtain ⟨a, b, c, d, e⟩ := h
  have g2 : ∀ k j, core k j = true → m' k j = m k j := fun k j hc => funext fun i => g k j i hc
  refine ⟨a.c (bk_congr (g2 _ _ rfl) (g2 _ _ rfl) (g2 _ _ rfl) (g2 _ _ rfl)) (bkM_congr (w.1 _ (by omega) (by omega) (by omega)) (w.1 _ (by omega) (by omega) (by omega)) (w.2 _ (by omega)) (w.2 _ (by omega))), b.c (fun l hl => ?_) (w.1 _ (by omega) (by omega) (by omega)) (w.1 _ (by omega) (by omega) (by omega)), c.c (congrFun (g _ _ _ rfl) _) (g _ _ _ rfl) (w.2 _ (by omega)) (w.1 _ (by omega) (by omega) (by omega)), d.c (funext fun j => g2 27 j rfl) (funext fun j => g2 28 j rfl) (w.1 _ (by omega) (by omega) (by omega)) (w.1 _ (by omega) (by omega) (by omega)) (w.1 _ (by omega) (by omega) (by omega)), e.c (congrFun (g _ _ _ rfl) _) (bk_congr (g2 _ _ rfl) (g2 _ _ rfl) (g2 _ _ rfl) (g2 _ _ rfl)) (fun l hl => ?_) (w.2 _ (by omega)) (w.1 _ (by omega) (by omega) (by omega))⟩
  · exact lw_congr (g2 8 l (by simp [core]; omega)) (g2 9 l (by simp [core]; omega))
  · exact lw_congr (g2 8 (2 + l) (by simp [core]; omega)) (g2 9 (2 + l) (by simp [core]; omega))
theorem RlA.k {m : Mem} {S S' : PS} (h : RlA m S) (g : ∀ k, kM k = true → S' k = S k) : RlA m S' := by
  obtain ⟨a, b, c, d, e⟩ := h
  exact ⟨a.c rfl (bkM_congr (g _ rfl) (g _ rfl) (congrFun (g _ rfl) _) (congrFun (g _ rfl) _)), b.c (fun _ _ => rfl) (g _ rfl) (g _ rfl), c.c rfl rfl (congrFun (g _ rfl) _) (g _ rfl), d.c rfl rfl (g _ rfl) (g _ rfl) (g _ rfl), e.c rfl rfl (fun _ _ => rfl) (congrFun (g _ rfl) _) (g _ rfl)⟩
/-- an order: the class writes its own, the model its own -/
theorem simC {Cr : Mem → Int} {Cm : Mem → Mem} {Nr : PS → Int} {Ns : PS → PS} (h : ∀ m S, Inv m → RlA m S → InvS kM S → mOK S → Inv (Cm m) ∧ (∀ k, 29 ≤ k → Cm m k = m k) ∧ Cr m = Nr S ∧ InvS kM (Ns S) ∧ RlA (Cm m) (Ns S)) : SimX Cr Cm Nr Ns := by
  intro m hG
  have hA := rel_of hG.2
  have key : ∀ S, (∀ k, kM k = true → S k = mv m k) → Inv (Cm m) ∧ (∀ k, 29 ≤ k → Cm m k = m k) ∧ Cr m = Nr S ∧ InvS kM (Ns S) ∧ RlA (Cm m) (Ns S) := fun S hS => by
    have hA2 := hA.k hS
    exact h m S hG.1 hA2 (fun k x hk => by rw [hS k hk]; exact hG.1 k 0 0 x) (good_ok hG.1 hA2.1)
  have h2 := (key (mv m) (fun _ _ => rfl)).2.1
  have hv : ∀ k, kM k = true → mv (Cm m) k = mv m k := fun k hk => by
    show Cm m k 0 0 = m k 0 0
    rw [h2 k (by simp [kM] at hk; omega)]
  obtain ⟨h1, -, h3, h4, h5⟩ := key (mv (Cm m)) hv
  exact ⟨h1, good_ok hG.1 (hA.k hv).1, h3, good_wr h1 h4 h5⟩
/-- a question: the class changes no kept number, the model none -/
theorem simQ {Cr : Mem → Int} {Cm : Mem → Mem} {Nr : PS → Int} {Ns : PS → PS} (h : ∀ m S, Inv m → RlA m S → InvS kM S → mOK S → Inv (Cm m) ∧ Core m (Cm m) ∧ Cr m = Nr S ∧ InvS kM (Ns S) ∧ WG S (Ns S)) : SimX Cr Cm Nr Ns := by
  intro m hG
  have hA := rel_of hG.2
  have key : ∀ S, (∀ k, kM k = true → S k = mv m k) → Inv (Cm m) ∧ Core m (Cm m) ∧ Cr m = Nr S ∧ InvS kM (Ns S) ∧ WG S (Ns S) := fun S hS => by
    have hA2 := hA.k hS
    exact h m S hG.1 hA2 (fun k x hk => by rw [hS k hk]; exact hG.1 k 0 0 x) (good_ok hG.1 hA2.1)
  have h2 := (key (mv m) (fun _ _ => rfl)).2.1
  have hv : ∀ k, kM k = true → mv (Cm m) k = mv m k := fun k hk => by
    show Cm m k 0 0 = m k 0 0
    refine h2 k 0 0 ?_
    simp [kM] at hk
    unfold core
    rw [if_neg (by omega), if_neg (by omega)]
    simp; omega
  obtain ⟨h1, -, h3, h4, h5⟩ := key (mv (Cm m)) hv
  exact ⟨h1, good_ok hG.1 (hA.k hv).1, h3, good_wr h1 h4 ((hA.k hv).c h2 h5)⟩
/-- nothing is changed -/
theorem same5 {m : Mem} {S : PS} {r r' : Int} (hI : Inv m) (hA : RlA m S) (hS : InvS kM S) (h : r = r') : Inv m ∧ (∀ k, 29 ≤ k → m k = m k) ∧ r = r' ∧ InvS kM S ∧ RlA m S := ⟨hI, fun _ _ => rfl, h, hS, hA⟩
theorem lt8 {P : Nat → Prop} (h0 : P 0) (h1 : P 1) (h2 : P 2) (h3 : P 3) (h4 : P 4) (h5 : P 5) (h6 : P 6) (h7 : P 7) : ∀ f, f < 8 → P f := fun f hf => by
  match f, hf with
  | 0, _ => exact h0
  | 1, _ => exact h1
  | 2, _ => exact h2
  | 3, _ => exact h3
  | 4, _ => exact h4
  | 5, _ => exact h5
  | 6, _ => exact h6
  | 7, _ => exact h7
theorem lt812 {P : Nat → Prop} (h0 : P 8) (h1 : P 9) (h2 : P 10) (h3 : P 11) : ∀ f, 8 ≤ f → f < 12 → P f := fun f hf hg => by
  match f, hf, hg with
  | 8, _, _ => exact h0
  | 9, _, _ => exact h1
  | 10, _, _ => exact h2
  | 11, _, _ => exact h3
theorem up_i {m : Mem} {k j i x k' j' i' : Nat} {v : Int} (h : ¬ (k' = k ∧ j' = j ∧ i' = i)) : up m k j i x v k' j' i' = m k' j' i' := by
  funext x'
  unfold up
  exact if_neg (fun e => h ⟨e.1, e.2.1, e.2.2.1⟩)
theorem bk_d {m m' : Mem} {b d : Nat} (h5 : m' 5 b d = m 5 b d) (h6 : m' 6 b d = m 6 b d) : ∀ f, f < 8 → bk m' b f d = bk m b f d := by
  refine lt8 ?_ ?_ ?_ ?_ ?_ ?_ ?_ ?_ <;> simp only [bk, h5, h6]
theorem bk_p {m m' : Mem} {b d : Nat} (h5 : m' 7 b d = m 7 b d) : ∀ f, 8 ≤ f → f < 12 → bk m' b f d = bk m b f d := by
  refine lt812 ?_ ?_ ?_ ?_ <;> simp only [bk, h5]
theorem bkM_d {S S' : PS} {d : Nat} (h : ∀ j, j < 8 → S' 31 (8 * d + j) = S 31 (8 * d + j)) : ∀ f, f < 8 → bkM S' f d = bkM S f d := by
  refine lt8 (h 0 (by omega)) (h 1 (by omega)) (h 2 (by omega)) (h 3 (by omega)) (h 4 (by omega)) (h 5 (by omega)) (h 6 (by omega)) (h 7 (by omega))
theorem bkM_p {S S' : PS} {d : Nat} (h : ∀ j, j < 4 → S' 33 (4 * d + j) = S 33 (4 * d + j)) : ∀ f, 8 ≤ f → f < 12 → bkM S' f d = bkM S f d := by
  refine lt812 (h 0 (by omega)) (h 1 (by omega)) (h 2 (by omega)) (h 3 (by omega))
/-- the book alone is changed -/
theorem RlA.bk {m m' : Mem} {S S' : PS} (h : RlA m S) (hB : RlB m' S') (hm : ∀ k j, (k = 1 ∨ k = 5 ∨ k = 6 ∨ k = 7) ∧ j = 0 ∨ m' k j = m k j) (hS : ∀ k, k = 29 ∨ k = 31 ∨ k = 33 ∨ S' k = S k) (h29 : ∀ x, x = 0 ∨ x = 2 ∨ S' 29 x = S 29 x) : RlA m' S' := by
  have q : ∀ k j, ¬ ((k = 1 ∨ k = 5 ∨ k = 6 ∨ k = 7) ∧ j = 0) → m' k j = m k j := fun k j hh => (hm k j).resolve_left hh
  have qS : ∀ k, k ≠ 29 → k ≠ 31 → k ≠ 33 → S' k = S k := fun k h1 h2 h3 => ((((hS k).resolve_left h1).resolve_left h2).resolve_left h3)
  have q9 : ∀ x, x ≠ 0 → x ≠ 2 → S' 29 x = S 29 x := fun k h1 h2 => (((h29 k).resolve_left h1).resolve_left h2)
  obtain ⟨-, b, c, d, e⟩ := h
  refine ⟨hB, b.c (fun l _ => lw_congr (q 8 l (by omega)) (q 9 l (by omega))) (qS _ (by omega) (by omega) (by omega)) (qS _ (by omega) (by omega) (by omega)), c.c (by rw [q 24 0 (by omega)]) (by rw [q 25 0 (by omega)]) (q9 _ (by omega) (by omega)) (qS _ (by omega) (by omega) (by omega)), d.c (funext fun j => q 27 j (by omega)) (funext fun j => q 28 j (by omega)) (qS _ (by omega) (by omega) (by omega)) (qS _ (by omega) (by omega) (by omega)) (qS _ (by omega) (by omega) (by omega)), e.c (by rw [q 0 0 (by omega)]) (bk_congr (q 1 1 (by omega)) (q 5 1 (by omega)) (q 6 1 (by omega)) (q 7 1 (by omega))) (fun l _ => lw_congr (q 8 _ (by omega)) (q 9 _ (by omega))) (q9 _ (by omega) (by omega)) (qS _ (by omega) (by omega) (by omega))⟩
