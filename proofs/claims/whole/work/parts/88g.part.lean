/-- a course's work writes nothing but a course -/
def OJ (T T' : PS) : Prop := ∀ k, kC k = false → T' k = T k
theorem OJ.rf {T : PS} : OJ T T := fun _ _ => rfl
theorem OJ.tr {A B C : PS} (h : OJ A B) (g : OJ B C) : OJ A C := fun k hk => (g k hk).trans (h k hk)
theorem OJ.up {T : PS} {k x : Nat} {v : Int} (h : kC k = true) : OJ T (upT T k x v) := fun k' hk => upT_kk (fun e => by rw [e, h] at hk; cases hk)
theorem OJ.set {T : PS} {k : Nat} {g : Nat → Int} (h : kC k = true) : OJ T (setT T k g) := fun k' hk => setT_d (fun e => by rw [e, h] at hk; cases hk)
theorem give_oj {L T : PS} {d : Nat} {a : Int} : OJ T (giveS L T d a) := by
  unfold giveS
  split
  · exact OJ.rf
  · generalize gvS L T d (gvn T d a) = ts
    generalize gvn T d a - ts = tr
    have h1 : OJ T (giveT T d ts tr) := by
      unfold giveT
      exact ((((OJ.up rfl).tr (OJ.up rfl)).tr (OJ.up rfl)).tr (OJ.up rfl)).tr (OJ.up rfl)
    have h2 : OJ T (giveW T d (giveT T d ts tr)) := by
      unfold giveW
      split
      · exact h1.tr (OJ.up rfl)
      · exact h1
    unfold giveP
    split
    · exact h2.tr (OJ.up rfl)
    · exact h2
theorem sh1_oj {L T : PS} {fr : Nat} {a all : Int} : ∀ k, OJ T (sh1 L T fr a all k).1
  | 0 => OJ.rf
  | k + 1 => (sh1_oj (L := L) (fr := fr) (a := a) (all := all) k).tr give_oj
theorem sh2_oj {L T : PS} {fr : Nat} {a : Int} : ∀ k, OJ T (sh2 L T fr a k).1
  | 0 => OJ.rf
  | k + 1 => (sh2_oj (L := L) (fr := fr) (a := a) k).tr give_oj
theorem share_oj {L T : PS} {fr en' : Nat} {o : Int} : OJ T (shareS L T fr en' o).1 := by
  unfold shareS
  have q : OJ T (if 0 < allL T fr (en' - fr) ∧ o < allL T fr (en' - fr) then sh1 L T fr o (allL T fr (en' - fr)) (en' - fr) else (T, o)).1 := by
    split
    · exact sh1_oj _
    · exact OJ.rf
  exact q.tr (sh2_oj _)
theorem dsL_oj {β L : PS} {n : Nat} : ∀ (F fr : Nat) (T : PS) (o : Int), OJ T (dsL β L n F fr T o).1
  | 0, _, _, _ => OJ.rf
  | F + 1, fr, T, o => by
    unfold dsL
    split
    · exact share_oj.tr (dsL_oj F _ _ _)
    · exact OJ.rf
theorem deadL_oj {β T : PS} : ∀ n, OJ T (deadL β T n)
  | 0 => OJ.rf
  | n + 1 => (deadL_oj n).tr (OJ.up rfl)
theorem dist_oj {β L T : PS} {a c : Int} : OJ T (distS β L T a c) := by
  have g0 : OJ T (dist0 β T) := by
    unfold dist0 deadS
    exact ((OJ.set rfl).tr (OJ.set rfl)).tr (deadL_oj _)
  have g1 : OJ T (dist1 β L T a c).1 := by
    unfold dist1
    split
    · exact g0
    · exact g0.tr give_oj
  have g2 : OJ T (dist2 β L T a c).2 := by
    unfold dist2
    split
    · exact g1.tr (OJ.set rfl)
    · exact g1
  have g3 : OJ T (dist3 β L T a c).1 := g2.tr (dsL_oj _ _ _ _)
  exact g3.tr (OJ.up rfl)
theorem run_oj {β T : PS} {t : Int} : OJ T (runToS β T t) := fun k hk => by
  unfold kC at hk
  exact runToS_k (by
    constructor <;> (intro e; subst e; simp at hk))
theorem take_oj {β L T : PS} {p : Nat} : OJ T (takeS β L T p) := by
  unfold takeS
  refine OJ.tr ?_ dist_oj
  unfold tak0
  exact run_oj.tr (OJ.up rfl)
theorem gbL_oj {β L : PS} {t : Int} : ∀ (f : Nat) (T : PS), OJ T (gbL β L t f T)
  | 0, T => OJ.rf
  | f + 1, T => by
    unfold gbL
    split
    · exact take_oj.tr (gbL_oj f _)
    · exact OJ.rf
theorem gb_oj {β L T : PS} {t : Int} : OJ T (gbS β L T t) := (gbL_oj 12 T).tr run_oj
theorem stS_oj {β T : PS} : OJ T (stS β T) := fun k hk => by
  have hk2 : k < 10 ∨ 19 < k := by unfold kC at hk; simp at hk; omega
  unfold stS
  rw [stL_k (by omega), upT_kk (by omega), upT_kk (by omega), upT_kk (by omega)]
theorem wrC_cs {m : Mem} {j : Nat} {T : PS} (h : OJ (fun k => m k j 0) T) : (fun k => wrC m j T k j 0) = T := by
  funext k
  by_cases c : kC k = true
  · simp [wrC, c]
  · have c' : kC k = false := by simpa using c
    rw [h k c', wrC_d c']
theorem wrC_csj {m : Mem} {j q : Nat} {T : PS} (h : q ≠ j) : (fun k => wrC m j T k q 0) = (fun k => m k q 0) := by
  funext k
  exact wrC_j h
theorem CR.wg {β L S D : PS} {l : Nat} (h : CR β L S l) (w : WG S D) : CR β L D l := by
  unfold CR
  rw [bkM_congr (S := S) (w.1 _ (by omega) (by omega) (by omega)) (w.1 _ (by omega) (by omega) (by omega)) (w.2 _ (by omega)) (w.2 _ (by omega)), w.1 36 (by omega) (by omega) (by omega), w.1 37 (by omega) (by omega) (by omega)]
  exact h
theorem MR.cd {β T D D' : PS} {y : Int} {p : Nat} (h : MR β T D y p) (g : ∀ k, 39 ≤ k → k ≤ 42 → D' k = D k) : MR β T D' y p := by
  obtain ⟨m1, m2, m3, m4⟩ := h
  refine ⟨m1, m2.c rfl (fun _ _ => rfl) (fun k hk => g k (by omega) (by omega)), fun d h1 h2 => ?_, m4⟩
  rw [g 39 (by omega) (by omega), g 40 (by omega) (by omega)]
  exact m3 d h1 h2
theorem gbS_day {β L T D : PS} {y : Int} {p : Nat} (h : MR β (gbS β L T y) D y p) : gbS β L T y 10 2 = y := by
  have := h.1
  by_cases e : gbS β L T y 10 2 < y
  · unfold gbS at e ⊢
    by_cases e2 : gbL β L y 12 T 10 2 ≤ y
    · exact runToS_le e2
    · rw [runToS_id (by omega)] at e; omega
  · omega
/-- one day of a course, class and model -/
theorem day_sim {β L T D : PS} {l y : Nat} (hy : (y : Int) ≤ 299) (hC : CR β L D l) (hR : PyR β) (h13 : β 13 0 ≤ 12) (hD : MK D y) (hM : MR β T (rnS D y) y 0) : MR β (gbS β L T y) (gdS D l y) y (β 13 0).toNat ∧ DR β (gbS β L T y) (gdS D l y) y := by
  have g := gb_many (T := T) (k := 0) (t := y) rfl hy hC hR h13 hD hM
  have g1 : MR β (gbS β L T y) (gdS D l y) y (β 13 0).toNat := g
  refine ⟨g1, ?_⟩
  have h := g1.2.1
  rw [runToS_id (by rw [gbS_day g1]; omega)] at h
  exact h
theorem pqE_t {D : PS} {x : Nat} : ∀ n, pqE D x n = true ↔ ∀ d, d < n → D 53 (8 * x + d) = D 39 d + D 40 d
  | 0 => ⟨fun _ d h => by omega, fun _ => rfl⟩
  | n + 1 => by
    have i := pqE_t (D := D) (x := x) n
    unfold pqE
    rw [Bool.and_eq_true, i, decide_eq_true_iff]
    constructor
    · intro h d hd
      by_cases e : d = n
      · subst e; exact h.2
      · exact h.1 d (by omega)
    · intro h
      exact ⟨fun d hd => h d (by omega), h n (by omega)⟩
