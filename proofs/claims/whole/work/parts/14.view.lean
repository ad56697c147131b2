-- ===== a course's numbers, the model's numbers =====
abbrev PS : Type := Nat → Nat → Int
def upT (S : PS) (k x : Nat) (v : Int) : PS := fun k' x' => if k' = k ∧ x' = x then v else S k' x'
def setT (S : PS) (k : Nat) (g : Nat → Int) : PS := fun k' => if k' = k then g else S k'
def kC (k : Nat) : Bool := 10 ≤ k && k ≤ 19
def kM (k : Nat) : Bool := 29 ≤ k && k ≤ 58
/-- the memory in which course j has the numbers S (by kinds 10 .. 19) -/
def wrC (m : Mem) (j : Nat) (S : PS) : Mem := fun k j' i' => if kC k = true ∧ j' = j ∧ i' = 0 then S k else m k j' i'
/-- the memory in which the model has the numbers S (by kinds 29 .. 58) -/
def wrM (m : Mem) (S : PS) : Mem := fun k j' i' => if kM k = true ∧ j' = 0 ∧ i' = 0 then S k else m k j' i'
theorem wrC_c {m : Mem} {j : Nat} {S : PS} {k x : Nat} (h : kC k = true) : wrC m j S k j 0 x = S k x := by simp [wrC, h]
theorem wrC_d {m : Mem} {j : Nat} {S : PS} {k j' i' : Nat} (h : kC k = false) : wrC m j S k j' i' = m k j' i' := by simp [wrC, h]
theorem wrC_j {m : Mem} {j : Nat} {S : PS} {k j' i' : Nat} (h : j' ≠ j) : wrC m j S k j' i' = m k j' i' := by simp [wrC, h]
theorem wrM_c {m : Mem} {S : PS} {k x : Nat} (h : kM k = true) : wrM m S k 0 0 x = S k x := by simp [wrM, h]
theorem wrM_d {m : Mem} {S : PS} {k j' i' : Nat} (h : kM k = false) : wrM m S k j' i' = m k j' i' := by simp [wrM, h]
theorem wrC_self (m : Mem) (j : Nat) : wrC m j (fun k => m k j 0) = m := by
  funext k j' i'
  unfold wrC
  split
  · rename_i h; obtain ⟨-, rfl, rfl⟩ := h; rfl
  · rfl
theorem wrM_self (m : Mem) : wrM m (fun k => m k 0 0) = m := by
  funext k j' i'
  unfold wrM
  split
  · rename_i h; obtain ⟨-, rfl, rfl⟩ := h; rfl
  · rfl
theorem up_wrC {m : Mem} {j : Nat} {S : PS} {k x : Nat} {v : Int} (h : kC k = true) : up (wrC m j S) k j 0 x v = wrC m j (upT S k x v) := by
  funext k' j' i' x'
  unfold up wrC upT
  by_cases h1 : k' = k <;> by_cases h2 : j' = j <;> by_cases h3 : i' = 0 <;> by_cases h4 : x' = x <;> simp_all
theorem up_wrM {m : Mem} {S : PS} {k x : Nat} {v : Int} (h : kM k = true) : up (wrM m S) k 0 0 x v = wrM m (upT S k x v) := by
  funext k' j' i' x'
  unfold up wrM upT
  by_cases h1 : k' = k <;> by_cases h2 : j' = 0 <;> by_cases h3 : i' = 0 <;> by_cases h4 : x' = x <;> simp_all
theorem wrC_wrC {m : Mem} {j : Nat} {S S' : PS} : wrC (wrC m j S) j S' = wrC m j S' := by
  funext k' j' i'
  unfold wrC
  split <;> simp_all
theorem wrM_wrM {m : Mem} {S S' : PS} : wrM (wrM m S) S' = wrM m S' := by
  funext k' j' i'
  unfold wrM
  split <;> simp_all
theorem upT_self {S : PS} {k x : Nat} {v : Int} : upT S k x v k x = v := by simp [upT]
theorem upT_k {S : PS} {k k' x x' : Nat} {v : Int} (h : k' ≠ k) : upT S k x v k' x' = S k' x' := by simp [upT, h]
theorem upT_x {S : PS} {k k' x x' : Nat} {v : Int} (h : x' ≠ x) : upT S k x v k' x' = S k' x' := by simp [upT, h]
theorem upT_setT {S : PS} {k x : Nat} {v : Int} : upT S k x v = setT S k (upd1 (S k) x v) := by
  funext k' x'
  unfold upT setT upd1
  by_cases h : k' = k <;> by_cases h2 : x' = x <;> simp [h, h2]
theorem setT_k {S : PS} {k : Nat} {g : Nat → Int} : setT S k g k = g := by simp [setT]
theorem setT_d {S : PS} {k k' : Nat} {g : Nat → Int} (h : k' ≠ k) : setT S k g k' = S k' := by simp [setT, h]
theorem setT_setT {S : PS} {k : Nat} {g g' : Nat → Int} : setT (setT S k g) k g' = setT S k g' := by
  funext k'
  unfold setT
  split <;> rfl
theorem upT_setT' {S : PS} {k x : Nat} {g : Nat → Int} {v : Int} : upT (setT S k g) k x v = setT S k (upd1 g x v) := by rw [upT_setT, setT_setT, setT_k]
theorem setT_self {S : PS} {k : Nat} : setT S k (S k) = S := by
  funext k'
  unfold setT
  split
  · rename_i h; rw [h]
  · rfl
theorem setT_comm {S : PS} {k k' : Nat} {g g' : Nat → Int} (h : k ≠ k') : setT (setT S k g) k' g' = setT (setT S k' g') k g := by
  funext q
  unfold setT
  by_cases h1 : q = k <;> by_cases h2 : q = k' <;> simp_all
/-- ranges of a course's, of the model's numbers -/
def InvS (f : Nat → Bool) (S : PS) : Prop := ∀ k x, f k = true → inR k x (S k x)
theorem InvS.up {f : Nat → Bool} {S : PS} {k x : Nat} {v : Int} (h : InvS f S) (hv : inR k x v) : InvS f (upT S k x v) := by
  intro k' x' hk
  unfold upT
  split
  · rename_i e; obtain ⟨rfl, rfl⟩ := e; exact hv
  · exact h k' x' hk
theorem Inv.wrC {m : Mem} {j : Nat} {S : PS} (h : Inv m) (hS : InvS kC S) : Inv (wrC m j S) := by
  intro k j' i' x
  by_cases hc : kC k = true ∧ j' = j ∧ i' = 0
  · obtain ⟨h1, rfl, rfl⟩ := hc
    rw [wrC_c h1]; exact hS k x h1
  · show inR k x ((if kC k = true ∧ j' = j ∧ i' = 0 then S k else m k j' i') x)
    rw [if_neg hc]; exact h k j' i' x
theorem Inv.wrM {m : Mem} {S : PS} (h : Inv m) (hS : InvS kM S) : Inv (wrM m S) := by
  intro k j' i' x
  by_cases hc : kM k = true ∧ j' = 0 ∧ i' = 0
  · obtain ⟨h1, rfl, rfl⟩ := hc
    rw [wrM_c h1]; exact hS k x h1
  · show inR k x ((if kM k = true ∧ j' = 0 ∧ i' = 0 then S k else m k j' i') x)
    rw [if_neg hc]; exact h k j' i' x
theorem Inv.S {m : Mem} (h : Inv m) (f : Nat → Bool) (j : Nat) : InvS f (fun k => m k j 0) := fun k x _ => h k j 0 x
