-- ===== the engine: a judgement over pictures of the heap =====
abbrev Ev : Type := Launch × va_G × Nat × (Nat → ClassId) × (State → Prop)
abbrev Hp : Type := Nat × Nat × (Nat → va_E)
abbrev MI : Type := MethodName × ByteArray × Nat × Option FieldType
def wA : List Cond := lw_tbl.filter goodWord
theorem wA_good {w : Cond} (h : w ∈ wA) : (w.onTables && w.keeps) = true ∨ ∃ ty, w = .arrayClass ty := good_of_word (List.mem_filter.mp h).2
theorem wA_of {w : Cond} (h : w ∈ lw_tbl) (hg : goodWord w = true) : w ∈ wA := List.mem_filter.mpr ⟨h, hg⟩
theorem wA_t {w : Cond} (i : Nat) (h : tables_1[i]? = some w) (hg : goodWord w = true) : w ∈ wA := wA_of (List.mem_append_right _ (List.mem_of_getElem? h)) hg
theorem wA_s {w : Cond} (i : Nat) (h : (k2_sels lw_privs)[i]? = some w) (hg : goodWord w = true) : w ∈ wA := wA_of (List.mem_append_left _ (List.mem_of_getElem? h)) hg
def wM (M : MI) : List Cond := .code M.1 M.2.1 M.2.2.1 M.2.2.2 :: wA
def adl (b n : Nat) : List Nat := (List.range n).map (fun i => b + i)
theorem mem_adl {b n a : Nat} : a ∈ adl b n ↔ b ≤ a ∧ a < b + n := by
  simp only [adl, List.mem_map, List.mem_range]
  constructor
  · rintro ⟨i, h, rfl⟩; omega
  · intro h; exact ⟨a - b, by omega, by omega⟩
theorem adl_succ (b n : Nat) : adl b (n + 1) = adl b n ++ [b + n] := by simp [adl, List.range_succ]
def tyL (cy : Nat → ClassId) : List (ClassId × FieldType) := [(cy 0, .int), (cy 1, .long), (cy 2, .boolean), (cy 3, .object RX1), (cy 4, .object RX2), (cy 5, .object RX3), (cy 6, .object RX4), (cy 7, .object RX5)]
def nwL : List (String × Nat × MethodName × String) := [(RX0, 36, yX2_init, RX8), (RX0, 37, yX4_init, RX8), (RX0, 38, yX3_init, RX8), (RX8, 25, yX1_init, RX8), (RX1, 20, yX3_init, RX8), (RX7, 39, yX1_init, RX8), (RX8, 42, yX6_init, RX8), (RX8, 53, yX5_init, RX8)]
def aoL : List String := [RX1, RX2, RX3, RX4, RX5]
def KK (E : Ev) (U : State) : Prop := va_K E.2.1 vwCl (tyL E.2.2.2.1) U ∧ (∀ q ∈ nwL, va_Nw (.methodLinkNest q.1 q.2.1 q.2.2.1 q.2.2.2) U) ∧ ∀ C ∈ aoL, va_AO C U
theorem KK.warm {E : Ev} {s U : State} (hW : s.WarmedH U.vm) (h : KK E s) : KK E U := ⟨h.1.moved hW.alike, fun q hq => va_Nw.warmM hW (h.2.1 q hq), fun C hC => (h.2.2 C hC).moved hW.alike⟩
def Aa (E : Ev) : Nat → Prop := fun q => E.2.2.1 ≤ q
def Pic (E : Ev) (h : Hp) (H : Heap) : Prop := va_P E.2.1 vwCl (va_pl (adl E.2.2.1 h.1) h.2.2) H
def roS (E : Ev) : Prop := ∀ s U : State, E.2.2.2.2 s → s.WarmedH U.vm → (∀ q : Nat, q < E.2.2.1 → U.heap[q]? = s.heap[q]?) → E.2.2.2.2 U
def QR (E : Ev) (r : Option Value) (h' : Hp) : Array Value → State → Outcome → State → Prop := fun _ st o t => o = .returned r ∧ Pic E h' t.heap ∧ va_F (Aa E) st t
theorem adl_nd (b : Nat) : ∀ n i j a : Nat, (adl b n)[i]? = some a → (adl b n)[j]? = some a → i = j := by
  intro n i j a h1 h2
  simp only [adl, List.getElem?_map, Option.map_eq_some_iff] at h1 h2
  obtain ⟨x, hx, e1⟩ := h1
  obtain ⟨y, hy, e2⟩ := h2
  have := List.getElem?_eq_some_iff.mp hx
  have := List.getElem?_eq_some_iff.mp hy
  simp_all
  omega
theorem Pic.D {E : Ev} {n : Nat} {f : Nat → va_E} : va_D (Aa E) (va_pl (adl E.2.2.1 n) f) := by
  refine ⟨fun i j p q hi hj hpq => ?_, fun k q hk => ?_⟩
  · simp only [va_pl, List.getElem?_map, Option.map_eq_some_iff] at hi hj
    obtain ⟨a, ha, rfl⟩ := hi
    obtain ⟨b, hb, rfl⟩ := hj
    have : a = b := hpq
    subst this
    exact adl_nd _ _ _ _ _ ha hb
  · simp only [va_pl, List.getElem?_map, Option.map_eq_some_iff] at hk
    obtain ⟨a, ha, rfl⟩ := hk
    exact (mem_adl.mp (List.mem_of_getElem? ha)).1
theorem pl_get {L : List Nat} {f : Nat → va_E} {a : Nat} (h : a ∈ L) : ∃ k : Nat, (va_pl L f)[k]? = some (a, f a) := List.getElem?_of_mem (List.mem_map.mpr ⟨a, h, rfl⟩)
theorem pl_set {A : Nat → Prop} {L : List Nat} {f : Nat → va_E} {a k : Nat} {e : va_E} (hD : va_D A (va_pl L f)) (h : a ∈ L) (hk : (va_pl L f)[k]? = some (a, f a)) : (va_pl L f).set k (a, e) = va_pl L (va_up f a e) := by
  have := va_pl_set (X := []) (e := e) (by simpa using hD) h (by simpa using hk)
  simpa using this
-- locals
def lvL : Nat → List (Option Value) → List (Nat × Value)
  | _, [] => []
  | k, none :: t => lvL (k + 1) t
  | k, some v :: t => (k, v) :: lvL (k + 1) t
theorem mem_lvL {ls : List (Option Value)} : ∀ {k : Nat} {q : Nat × Value}, q ∈ lvL k ls ↔ k ≤ q.1 ∧ ls[q.1 - k]? = some (some q.2) := by
  induction ls with
  | nil => intro k q; simp [lvL]
  | cons a t ih =>
    intro k q
    obtain ⟨i, v⟩ := q
    cases a with
    | none =>
      simp only [lvL, ih]
      constructor
      · rintro ⟨h1, h2⟩
        refine ⟨by omega, ?_⟩
        rw [show i - k = (i - (k + 1)) + 1 by omega, List.getElem?_cons_succ]; exact h2
      · rintro ⟨h1, h2⟩
        have : i ≠ k := by rintro rfl; simp at h2
        refine ⟨by omega, ?_⟩
        rw [show i - k = (i - (k + 1)) + 1 by omega, List.getElem?_cons_succ] at h2; exact h2
    | some w =>
      simp only [lvL, List.mem_cons, ih, Prod.mk.injEq]
      constructor
      · rintro (⟨rfl, rfl⟩ | ⟨h1, h2⟩)
        · simp
        · refine ⟨by omega, ?_⟩
          rw [show i - k = (i - (k + 1)) + 1 by omega, List.getElem?_cons_succ]; exact h2
      · rintro ⟨h1, h2⟩
        by_cases hi : i = k
        · subst hi
          simp at h2
          exact Or.inl ⟨rfl, h2.symm⟩
        · right
          refine ⟨by omega, ?_⟩
          rw [show i - k = (i - (k + 1)) + 1 by omega, List.getElem?_cons_succ] at h2; exact h2
def lvO (lsA : Array Slot) (n : Nat) (ls : List (Option Value)) : Prop := lv_has lsA n (lvL 0 ls)
theorem lvO.at {lsA : Array Slot} {n : Nat} {ls : List (Option Value)} (h : lvO lsA n ls) {i : Nat} {v : Value} (hi : ls[i]? = some (some v)) : lsA[i]? = some (.val v) := h.2.2 (i, v) (mem_lvL.mpr ⟨Nat.zero_le _, hi⟩)
/-- no long just ahead of place i -/
def okS (ls : List (Option Value)) (i : Nat) : Bool := match i with
  | 0 => true
  | i + 1 => match ls[i]? with
    | some (some v) => v.category == 1
    | _ => true
theorem lvO.set1 {lsA : Array Slot} {n i : Nat} {ls : List (Option Value)} {v : Value} (ho : okS ls i = true) (h : lv_has lsA n ((i, v) :: (lvL 0 ls).filter (fun q => !(q.1 == i) && !(q.1 + 1 == i && q.2.category == 2)))) : lvO lsA n (ls.set i (some v)) := by
  refine ⟨h.1, h.2.1, fun q hq => ?_⟩
  obtain ⟨j, w⟩ := q
  have hj := (mem_lvL.mp hq).2
  simp only [Nat.sub_zero, List.getElem?_set] at hj
  apply h.2.2 (j, w)
  by_cases hji : i = j
  · subst hji
    rw [if_pos rfl] at hj
    split at hj
    · simp at hj; subst hj; exact List.mem_cons_self
    · cases hj
  · rw [if_neg hji] at hj
    refine List.mem_cons_of_mem _ (List.mem_filter.mpr ⟨mem_lvL.mpr ⟨Nat.zero_le _, hj⟩, ?_⟩)
    have h1 : (j == i) = false := by simpa using fun e => hji e.symm
    by_cases hs : j + 1 = i
    · subst hs
      simp only [okS, hj] at ho
      have hc : (w.category == 2) = false := by
        have : w.category = 1 := by simpa using ho
        rw [this]; rfl
      simp [hc]
    · have h2 : (j + 1 == i) = false := by simpa using hs
      simp [h1, h2]
theorem lvO.set2 {lsA : Array Slot} {n i : Nat} {ls : List (Option Value)} {v : Value} (ho : okS ls i = true) (h : lv_has lsA n ((i, v) :: (lvL 0 ls).filter (fun q => !(q.1 == i) && (!(q.1 == i + 1) && !(q.1 + 1 == i && q.2.category == 2))))) : lvO lsA n ((ls.set i (some v)).set (i + 1) none) := by
  refine ⟨h.1, h.2.1, fun q hq => ?_⟩
  obtain ⟨j, w⟩ := q
  have hj := (mem_lvL.mp hq).2
  simp only [Nat.sub_zero, List.getElem?_set] at hj
  apply h.2.2 (j, w)
  by_cases hj1 : i + 1 = j
  · rw [if_pos hj1] at hj
    split at hj
    · cases hj
    · cases hj
  rw [if_neg hj1] at hj
  by_cases hji : i = j
  · subst hji
    rw [if_pos rfl] at hj
    split at hj
    · simp at hj; subst hj; exact List.mem_cons_self
    · cases hj
  · rw [if_neg hji] at hj
    refine List.mem_cons_of_mem _ (List.mem_filter.mpr ⟨mem_lvL.mpr ⟨Nat.zero_le _, hj⟩, ?_⟩)
    have h1 : (j == i) = false := by simpa using fun e => hji e.symm
    have h3 : (j == i + 1) = false := by simpa using fun e => hj1 e.symm
    by_cases hs : j + 1 = i
    · subst hs
      simp only [okS, hj] at ho
      have hc : (w.category == 2) = false := by
        have : w.category = 1 := by simpa using ho
        rw [this]; rfl
      simp [hc]; omega
    · have h2 : (j + 1 == i) = false := by simpa using hs
      simp [h1, h2, h3]
/-- the locals at the entry -/
def en : Nat → List Value → List (Option Value)
  | n, [] => List.replicate n none
  | n, v :: vs => if v.category = 2 then some v :: none :: en (n - 2) vs else some v :: en (n - 1) vs
theorem lvL_rep : ∀ (n k : Nat), lvL k (List.replicate n none) = []
  | 0, _ => rfl
  | n + 1, k => by simp only [List.replicate_succ, lvL]; exact lvL_rep n (k + 1)
theorem lvL_en : ∀ (vs : List Value) (n k : Nat), lvL k (en n vs) = lv_args k vs
  | [], n, k => by simp [en, lv_args, lvL_rep]
  | v :: vs, n, k => by
    by_cases h : v.category = 2
    · simp only [en, lv_args, if_pos h, lvL]
      rw [lvL_en vs (n - 2) (k + 1 + 1)]
    · simp only [en, lv_args, if_neg h, lvL]
      rw [lvL_en vs (n - 1) (k + 1)]
-- the judgement
def Cx (E : Ev) (M : MI) (p : Program) (s : State) (m : MethodId) (args : Array Value) (meth : Method) (c : Code) : Prop :=
  p.tables.exec = Jvm.exec ∧ c.code = M.2.1 ∧ c.maxLocals = M.2.2.1 ∧ s.vm.findClass M.1.cls = some m.cls ∧ (∀ w ∈ wA, w.before args s = true) ∧ meth.sig.returnType = M.2.2.2 ∧ meth.locks = false ∧ meth.name = M.1.name ∧ KK E s ∧ E.2.2.2.2 s ∧ E.2.2.1 ≤ s.heap.size ∧ roS E
def J (E : Ev) (d : Nat) (M : MI) (pc : Nat) (ls : List (Option Value)) (st : List Value) (h : Hp) (r : Option Value) (h' : Hp) : Prop :=
  h.1 ≤ h'.1 ∧ h.2.1 ≤ h'.2.1 ∧ ∀ (p : Program) (e : Env) (R : Room) (s : State) (m : MethodId) (args : Array Value) (below : List Frame) (meth : Method) (c : Code), Cx E M p s m args meth c → d ≤ R.frames → 100 * d ≤ R.locals →
    ∀ (H : Heap) (lsA : Array Slot) (locs : List Loc) (cells slots : Nat), Pic E h H → va_S (Aa E) s.heap H locs → lvO lsA M.2.2.1 ls → cells + (h'.1 - h.1) ≤ R.cells → slots + (h'.2.1 - h.2.1) ≤ R.slots → s.heap.size + cells = E.2.2.1 + h.1 →
      W p E.1 e R s m args below meth c H locs cells slots (MQ below (QR E r h') args s (cells + (h'.1 - h.1)) (slots + (h'.2.1 - h.2.1)) (Aa E)) (F0 m pc lsA st)
/-- a step from a picture to a picture -/
def Ph (E : Ev) (d : Nat) (M : MI) (pc : Nat) (ls : List (Option Value)) (st : List Value) (h : Hp) (pc' : Nat) (ls' : List (Option Value)) (st' : List Value) (h1 : Hp) : Prop :=
  h.1 ≤ h1.1 ∧ h.2.1 ≤ h1.2.1 ∧ ∀ (p : Program) (e : Env) (R : Room) (s : State) (m : MethodId) (args : Array Value) (below : List Frame) (meth : Method) (c : Code), Cx E M p s m args meth c → d ≤ R.frames → 100 * d ≤ R.locals →
    ∀ (H : Heap) (lsA : Array Slot) (locs : List Loc) (cells slots : Nat) (Q : State → Prop), Pic E h H → va_S (Aa E) s.heap H locs → lvO lsA M.2.2.1 ls → cells + (h1.1 - h.1) ≤ R.cells → slots + (h1.2.1 - h.2.1) ≤ R.slots → s.heap.size + cells = E.2.2.1 + h.1 →
      (∀ (H1 : Heap) (locs1 : List Loc) (lsB : Array Slot), Pic E h1 H1 → va_S (Aa E) s.heap H1 locs1 → lvO lsB M.2.2.1 ls' → W p E.1 e R s m args below meth c H1 locs1 (cells + (h1.1 - h.1)) (slots + (h1.2.1 - h.2.1)) Q (F0 m pc' lsB st')) →
      W p E.1 e R s m args below meth c H locs cells slots Q (F0 m pc lsA st)
/-- a step that leaves the heap -/
def Pl (E : Ev) (d : Nat) (M : MI) (pc : Nat) (ls : List (Option Value)) (st : List Value) (h : Hp) (pc' : Nat) (ls' : List (Option Value)) (st' : List Value) : Prop :=
  ∀ (p : Program) (e : Env) (R : Room) (s : State) (m : MethodId) (args : Array Value) (below : List Frame) (meth : Method) (c : Code), Cx E M p s m args meth c → d ≤ R.frames → 100 * d ≤ R.locals →
    ∀ (H : Heap) (lsA : Array Slot) (locs : List Loc) (cells slots : Nat) (Q : State → Prop), Pic E h H → va_S (Aa E) s.heap H locs → lvO lsA M.2.2.1 ls → cells ≤ R.cells → slots ≤ R.slots → s.heap.size + cells = E.2.2.1 + h.1 →
      (∀ (lsB : Array Slot), lvO lsB M.2.2.1 ls' → W p E.1 e R s m args below meth c H locs cells slots Q (F0 m pc' lsB st')) →
      W p E.1 e R s m args below meth c H locs cells slots Q (F0 m pc lsA st)
def T (E : Ev) (d : Nat) (M : MI) (pc : Nat) (ls : List (Option Value)) (st : List Value) (h : Hp) (Q : Option Value → Hp → Prop) : Prop := ∃ r h', J E d M pc ls st h r h' ∧ Q r h'
theorem W.sz {p : Program} {l : Launch} {e : Env} {R : Room} {s : State} {m : MethodId} {args : Array Value} {below : List Frame} {meth : Method} {c : Code} {H : Heap} {locs : List Loc} {cells slots : Nat} {Q : State → Prop} {g : JFrame} (k : H.size ≤ s.heap.size + cells → W p l e R s m args below meth c H locs cells slots Q g) : W p l e R s m args below meth c H locs cells slots Q g := fun T hT X => k (by rw [← hT]; exact X.heapSize) T hT X
theorem Pic.ge {E : Ev} {h : Hp} {H H0 : Heap} {locs : List Loc} (hP : Pic E h H) (hB : E.2.2.1 ≤ H0.size) (hS : va_S (Aa E) H0 H locs) : E.2.2.1 + h.1 ≤ H.size := by
  by_cases h0 : h.1 = 0
  · have := hS.1; omega
  · obtain ⟨k, hk⟩ := pl_get (f := h.2.2) (mem_adl.mpr (⟨by omega, by omega⟩ : E.2.2.1 ≤ E.2.2.1 + (h.1 - 1) ∧ E.2.2.1 + (h.1 - 1) < E.2.2.1 + h.1))
    have := (hP k _ hk).lt
    simp only at this
    omega
section ENG
variable {E : Ev} {d : Nat} {M : MI} {pc pc' : Nat} {ls ls' : List (Option Value)} {st st' : List Value} {h h1 h' : Hp} {r : Option Value} {Q : Option Value → Hp → Prop}
theorem Pl.ph (k : Pl E d M pc ls st h pc' ls' st') : Ph E d M pc ls st h pc' ls' st' h := by
  refine ⟨Nat.le_refl _, Nat.le_refl _, ?_⟩
  intro p e R s m args below meth c hC hf hl H lsA locs cells slots Q hP hS hL hc hs hz kk
  refine k p e R s m args below meth c hC hf hl H lsA locs cells slots Q hP hS hL (by omega) (by omega) hz (fun lsB hB => ?_)
  have := kk H locs lsB hP hS hB
  simpa only [Nat.sub_self, Nat.add_zero] using this
theorem J.ph (k : Ph E d M pc ls st h pc' ls' st' h1) (j : J E d M pc' ls' st' h1 r h') : J E d M pc ls st h r h' := by
  refine ⟨Nat.le_trans k.1 j.1, Nat.le_trans k.2.1 j.2.1, ?_⟩
  have a1 := k.1; have a2 := k.2.1; have b1 := j.1; have b2 := j.2.1
  intro p e R s m args below meth c hC hf hl H lsA locs cells slots hP hS hL hc hs hz
  refine k.2.2 p e R s m args below meth c hC hf hl H lsA locs cells slots _ hP hS hL (by omega) (by omega) hz (fun H1 locs1 lsB hP1 hS1 hB => ?_)
  have := j.2.2 p e R s m args below meth c hC hf hl H1 lsB locs1 (cells + (h1.1 - h.1)) (slots + (h1.2.1 - h.2.1)) hP1 hS1 hB (by omega) (by omega) (by omega)
  rwa [show cells + (h1.1 - h.1) + (h'.1 - h1.1) = cells + (h'.1 - h.1) by omega, show slots + (h1.2.1 - h.2.1) + (h'.2.1 - h1.2.1) = slots + (h'.2.1 - h.2.1) by omega] at this
theorem T.ph (k : Ph E d M pc ls st h pc' ls' st' h1) (j : T E d M pc' ls' st' h1 Q) : T E d M pc ls st h Q := by
  obtain ⟨r, h', j, q⟩ := j
  exact ⟨r, h', J.ph k j, q⟩
theorem T.pl (k : Pl E d M pc ls st h pc' ls' st') (j : T E d M pc' ls' st' h Q) : T E d M pc ls st h Q := T.ph k.ph j
theorem T.mono {Q' : Option Value → Hp → Prop} (j : T E d M pc ls st h Q) (hq : ∀ r h', Q r h' → Q' r h') : T E d M pc ls st h Q' := by
  obtain ⟨r, h', j, q⟩ := j
  exact ⟨r, h', j, hq _ _ q⟩
theorem T.deep {d' : Nat} (hd : d ≤ d') (j : T E d M pc ls st h Q) : T E d' M pc ls st h Q := by
  obtain ⟨r, h', j, q⟩ := j
  refine ⟨r, h', ⟨j.1, j.2.1, ?_⟩, q⟩
  intro p e R s m args below meth c hC hf hl
  exact j.2.2 p e R s m args below meth c hC (by omega) (by omega)
-- ends
theorem J.iret {v : Int32} (hd : decode M.2.1 pc = .ok (.ireturn, 1)) (hr : M.2.2.2 = some .int) : J E d M pc ls [.int v] h (some (.int v)) h := by
  refine ⟨Nat.le_refl _, Nat.le_refl _, ?_⟩
  intro p e R s m args below meth c hC hf hl H lsA locs cells slots hP hS hL hc hs hz
  obtain ⟨hx, hb, hml, hown, hts, hrt, hlk, hnm, hK, hro, hB, hRS⟩ := hC
  simp only [Nat.sub_self, Nat.add_zero]
  exact W.iret hx hb (by rw [hrt, hr]) (fun t ht hW => ⟨rfl, by rw [ht]; exact hP, hS.F ht⟩) hS.2.2 hd hlk
theorem J.zret {v : Int32} (hd : decode M.2.1 pc = .ok (.ireturn, 1)) (hr : M.2.2.2 = some .boolean) (hn : narrow .boolean (.int v) = .int v) : J E d M pc ls [.int v] h (some (.int v)) h := by
  refine ⟨Nat.le_refl _, Nat.le_refl _, ?_⟩
  intro p e R s m args below meth c hC hf hl H lsA locs cells slots hP hS hL hc hs hz
  obtain ⟨hx, hb, hml, hown, hts, hrt, hlk, hnm, hK, hro, hB, hRS⟩ := hC
  simp only [Nat.sub_self, Nat.add_zero]
  exact W.zret hx hb (hrt.trans hr) hn (fun t ht hW => ⟨rfl, by rw [ht]; exact hP, hS.F ht⟩) hS.2.2 hd hlk
theorem J.lret {v : Int64} (hd : decode M.2.1 pc = .ok (.lreturn, 1)) (hr : M.2.2.2 = some .long) : J E d M pc ls [.long v] h (some (.long v)) h := by
  refine ⟨Nat.le_refl _, Nat.le_refl _, ?_⟩
  intro p e R s m args below meth c hC hf hl H lsA locs cells slots hP hS hL hc hs hz
  obtain ⟨hx, hb, hml, hown, hts, hrt, hlk, hnm, hK, hro, hB, hRS⟩ := hC
  simp only [Nat.sub_self, Nat.add_zero]
  exact W.lret hx hb (hrt.trans hr) (fun t ht hW => ⟨rfl, by rw [ht]; exact hP, hS.F ht⟩) hS.2.2 hd hlk
theorem J.vret (hd : decode M.2.1 pc = .ok (.return_, 1)) (hr : M.2.2.2 = none) : J E d M pc ls [] h none h := by
  refine ⟨Nat.le_refl _, Nat.le_refl _, ?_⟩
  intro p e R s m args below meth c hC hf hl H lsA locs cells slots hP hS hL hc hs hz
  obtain ⟨hx, hb, hml, hown, hts, hrt, hlk, hnm, hK, hro, hB, hRS⟩ := hC
  simp only [Nat.sub_self, Nat.add_zero]
  exact W.vret hx hb (hrt.trans hr) (fun t ht hW => ⟨rfl, by rw [ht]; exact hP, hS.F ht⟩) hS.2.2 hd hlk
theorem T.iret {v : Int32} (hd : decode M.2.1 pc = .ok (.ireturn, 1)) (q : Q (some (.int v)) h) (hr : M.2.2.2 = some .int := by rfl) : T E d M pc ls [.int v] h Q := ⟨_, _, J.iret hd hr, q⟩
theorem T.lret {v : Int64} (hd : decode M.2.1 pc = .ok (.lreturn, 1)) (q : Q (some (.long v)) h) (hr : M.2.2.2 = some .long := by rfl) : T E d M pc ls [.long v] h Q := ⟨_, _, J.lret hd hr, q⟩
theorem T.vret (hd : decode M.2.1 pc = .ok (.return_, 1)) (q : Q none h) (hr : M.2.2.2 = none := by rfl) : T E d M pc ls [] h Q := ⟨_, _, J.vret hd hr, q⟩
theorem T.zret {v : Int32} (hd : decode M.2.1 pc = .ok (.ireturn, 1)) (hn : narrow .boolean (.int v) = .int v) (q : Q (some (.int v)) h) (hr : M.2.2.2 = some .boolean := by rfl) : T E d M pc ls [.int v] h Q := ⟨_, _, J.zret hd hr hn, q⟩
-- contracts
def CT (E : Ev) (d : Nat) (M : MI) (as : List Value) (h : Hp) (r : Option Value) (h' : Hp) : Prop := h.1 ≤ h'.1 ∧ h.2.1 ≤ h'.2.1 ∧ (roS E → Met E.1 M.1 (wM M) { frames := d, cells := h'.1 - h.1, slots := h'.2.1 - h.2.1, locals := 100 * d } (va_Pc as (fun U => U.heap.size = E.2.2.1 + h.1 ∧ Pic E h U.heap ∧ KK E U ∧ E.2.2.2.2 U)) (QR E r h') (h'.1 - h.1) (h'.2.1 - h.2.1) (Aa E))
def MOK (M : MI) (n : Nat) : Prop := Cond.code M.1 M.2.1 M.2.2.1 M.2.2.2 ∈ wA ∧ Cond.initialized M.1.cls ∈ wA ∧ (M.1.cls ≠ "java/lang/invoke/MethodHandle" ∧ M.1.cls ≠ "java/lang/invoke/VarHandle" ∧ (parseMethodDescriptor M.1.desc).map (fun d => d.parameters.length) = some n) ∧ plainName M.1.cls = true ∧ M.2.2.1 ≤ 80
theorem CT.of {n : Nat} {as : List Value} (hM : MOK M n) (hn : (lg_sl as).length ≤ M.2.2.1) (j : J E d M 0 (en M.2.2.1 as) [] h r h') : CT E d M as h r h' := by
  refine ⟨j.1, j.2.1, fun hRS => ?_⟩
  refine Met.ofW (cc := M.2.1) (maxL := M.2.2.1) (ret := M.2.2.2) (ws' := wA) hM.2.2.2.1 rfl ?_
  intro p e s m args below meth c s₁ B hml hv
  obtain ⟨rfl, hsz, hP, hK, hro⟩ := hv
  have hts := atoms_spec (ws := wM M) B.pre
  rw [lg_entry_eq]
  have hB0 : E.2.2.1 ≤ s.heap.size := by rw [hsz]; omega
  have hl := lv_entry as (n := M.2.2.1) hn
  have hL : lvO (lg_sl as ++ List.replicate (M.2.2.1 - (lg_sl as).length) Slot.unset).toArray M.2.2.1 (en M.2.2.1 as) := by
    unfold lvO; rw [lvL_en]; exact hl
  have k := j.2.2 p e (headSpec (wM M) { frames := d, cells := h'.1 - h.1, slots := h'.2.1 - h.2.1, locals := 100 * d }).room s m as.toArray below meth c ⟨B.exec, B.bytes, hml, findClass_of_methodNamed B.named, fun w hw => hts w (List.mem_cons_of_mem _ hw), B.returns, B.notSynchronized, (name_of_methodNamed B.named B.method).1, hK, hro, hB0, hRS⟩ (Nat.le_refl _) (Nat.le_refl _) s.heap _ [] 0 0 hP va_S.rf hL (by simp [headSpec]) (by simp [headSpec]) (by rw [hsz]; omega)
  simpa only [Nat.zero_add] using k
end ENG
