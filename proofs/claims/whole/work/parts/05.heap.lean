-- ===== rows over the heap, calls =====
def FO (own : String) (idx ci k : Nat) : Prop := ∃ (C : String) (T0 : u_T) (N : Nat), vwCl[ci]? = some (C, T0, N) ∧ k < N ∧ (∀ w ∈ u_ws C T0 N, w ∈ wA) ∧ Cond.fieldLink own idx (T0 k).1 (T0 k).2.1 (T0 k).2.2.1 ∈ wA
def FP (own : String) (idx ci k : Nat) (ty : FieldType) (fin : Bool) : Prop := ∃ (C : String) (T0 : u_T) (N : Nat) (ty0 : Nat → FieldType), vwCl[ci]? = some (C, T0, N) ∧ k < N ∧ (∀ w ∈ u_ws C T0 N, w ∈ wA) ∧ Cond.fieldLink own idx (T0 k).1 (T0 k).2.1 (T0 k).2.2.1 ∈ wA ∧ (∀ j, j < N → parseFieldDescriptor (T0 j).2.2.1 = some (ty0 j)) ∧ (∀ a, a < N → ∀ b, b < N → a ≠ b → (T0 a).2.1 ≠ (T0 b).2.1) ∧ (T0 k).2.2.2 = fin ∧ parseFieldDescriptor (T0 k).2.2.1 = some ty ∧ (fin = true → (T0 k).1 = own)
/-- a class that can be made: its number, the default values of its fields -/
def NO (own : String) (idx ci : Nat) (fs : List Value) : Prop := ∃ (C : String) (T0 : u_T) (N : Nat) (ty0 : Nat → FieldType), vwCl[ci]? = some (C, T0, N) ∧ (∀ w ∈ u_ws C T0 N, w ∈ wA) ∧ (∀ j, j < N → parseFieldDescriptor (T0 j).2.2.1 = some (ty0 j)) ∧ Cond.classLink own idx C ∈ wA ∧ Cond.instantiable C N ∈ wA ∧ Cond.initialized C ∈ wA ∧ (∀ j, j < N → defaultValue (ty0 j) = vp_V fs j) ∧ fs.length = N
def inH (E : Ev) (h : Hp) (a : Nat) : Prop := E.2.2.1 ≤ a ∧ a < E.2.2.1 + h.1
/-- a store: one cell is another -/
abbrev hst (h : Hp) (a : Nat) (e : va_E) : Hp := (h.1, h.2.1, va_up h.2.2 a e)
/-- a cell more, of n slots -/
abbrev hnw (E : Ev) (h : Hp) (n : Nat) (e : va_E) : Hp := (h.1 + 1, h.2.1 + n, va_up h.2.2 (E.2.2.1 + h.1) e)
section HEAP
variable {E : Ev} {d : Nat} {M : MI} {pc pc' : Nat} {ls ls' : List (Option Value)} {st : List Value} {h h1 : Hp} {Q : Option Value → Hp → Prop} {a : Nat}
theorem Pic.set {H1 : Heap} {e e0 : va_E} {k : Nat} (ha : inH E h a) (he : h.2.2 a = e0) (hk : (va_pl (adl E.2.2.1 h.1) h.2.2)[k]? = some (a, e0)) (h1 : va_P E.2.1 vwCl ((va_pl (adl E.2.2.1 h.1) h.2.2).set k (a, e)) H1) : Pic E (hst h a e) H1 := by
  subst he
  rw [pl_set Pic.D (mem_adl.mpr ha) hk] at h1
  exact h1
theorem Pic.at {H : Heap} {e0 : va_E} (ha : inH E h a) (he : h.2.2 a = e0) : ∃ k : Nat, (va_pl (adl E.2.2.1 h.1) h.2.2)[k]? = some (a, e0) := by
  subst he
  exact pl_get (f := h.2.2) (mem_adl.mpr ha)
theorem T.getf {idx ci k : Nat} {fs : List Value} {v : Value} (hd : decode M.2.1 pc = .ok (.getfield idx, 3)) (hF : FO M.1.cls idx ci k) (ha : inH E h a) (he : h.2.2 a = .inr (ci, fs)) (hv : fs[k]? = some v) (kt : T E d M (pc + 3) ls (v :: st) h Q) : T E d M pc ls (.ref a :: st) h Q := by
  refine T.pl ?_ kt
  intro p e R s m args below meth c hC hf hl H lsA locs cells slots Q hP hS hL hcl hsl hz kk
  obtain ⟨hx, hb, hml, hown, hts, hrt, hlk, hnm, hK, hro, hB, hRS⟩ := hC
  obtain ⟨C, T0, N, f1, f2, f3, f4⟩ := hF
  obtain ⟨q0, hq⟩ := Pic.at (H := H) ha he
  exact va_get hx hb hts f3 hown hK.1 hP q0 hq f1 k f2 (hts _ f4) (fun _ z => z) hv hd (kk _ hL)
theorem T.putf {idx ci k : Nat} {fs : List Value} {v : Value} {ty : FieldType} (hd : decode M.2.1 pc = .ok (.putfield idx, 3)) (hF : FP M.1.cls idx ci k ty false) (ha : inH E h a) (he : h.2.2 a = .inr (ci, fs)) (hn : narrow ty v = v) (hfit : fits ty v = true) (hlen : k < fs.length) (kt : T E d M (pc + 3) ls st (hst h a (.inr (ci, fs.set k v))) Q) : T E d M pc ls (v :: .ref a :: st) h Q := by
  refine T.ph (h1 := hst h a (.inr (ci, fs.set k v))) ⟨Nat.le_refl _, Nat.le_refl _, ?_⟩ kt
  intro p e R s m args below meth c hC hf hl H lsA locs cells slots Q hP hS hL hcl hsl hz kk
  obtain ⟨hx, hb, hml, hown, hts, hrt, hlk, hnm, hK, hro, hB, hRS⟩ := hC
  obtain ⟨C, T0, N, ty0, f1, f2, f3, f4, f5, f6, f7, f8, f9⟩ := hF
  obtain ⟨q0, hq⟩ := Pic.at (H := H) ha he
  simp only [Nat.sub_self, Nat.add_zero] at kk
  exact va_put hx hb hts f3 ty0 f5 f6 hown hK.1 hP Pic.D hS q0 hq f1 k f2 (hts _ f4) (fun _ z => z) f7 f8 hn hfit hlen hd (fun H1 locs1 k1 k2 k3 => kk H1 locs1 _ (Pic.set ha he hq k1) k3 hL)
theorem T.putF {idx ci k : Nat} {fs : List Value} {v : Value} {ty : FieldType} (hd : decode M.2.1 pc = .ok (.putfield idx, 3)) (hF : FP M.1.cls idx ci k ty true) (hi : M.1.name = "<init>") (ha : inH E h a) (he : h.2.2 a = .inr (ci, fs)) (hn : narrow ty v = v) (hfit : fits ty v = true) (hlen : k < fs.length) (kt : T E d M (pc + 3) ls st (hst h a (.inr (ci, fs.set k v))) Q) : T E d M pc ls (v :: .ref a :: st) h Q := by
  refine T.ph (h1 := hst h a (.inr (ci, fs.set k v))) ⟨Nat.le_refl _, Nat.le_refl _, ?_⟩ kt
  intro p e R s m args below meth c hC hf hl H lsA locs cells slots Q hP hS hL hcl hsl hz kk
  obtain ⟨hx, hb, hml, hown, hts, hrt, hlk, hnm, hK, hro, hB, hRS⟩ := hC
  obtain ⟨C, T0, N, ty0, f1, f2, f3, f4, f5, f6, f7, f8, f9⟩ := hF
  obtain ⟨q0, hq⟩ := Pic.at (H := H) ha he
  simp only [Nat.sub_self, Nat.add_zero] at kk
  exact va_putF hx hb hts f3 ty0 f5 f6 hown hK.1 hP Pic.D hS q0 hq f1 k f2 (hts _ f4) (fun _ z => z) f7 (hnm.trans hi) (f9 rfl) f8 hn hfit hlen hd (fun H1 locs1 k1 k2 k3 => kk H1 locs1 _ (Pic.set ha he hq k1) k3 hL)
-- arrays
theorem T.iald {n i : Nat} {f : Nat → Int32} {x : Int} (hd : decode M.2.1 pc = .ok (.iaload, 1)) (ha : inH E h a) (he : h.2.2 a = .inl (E.2.2.2.1 0, n, .inl f)) (hi : x = i) (hN : i < n) (hn : n < 2147483648) (kt : T E d M (pc + 1) ls (.int (f i) :: st) h Q) : T E d M pc ls (.int (iI x) :: .ref a :: st) h Q := by
  refine T.pl ?_ kt
  intro p e R s m args below meth c hC hf hl H lsA locs cells slots Q hP hS hL hcl hsl hz kk
  obtain ⟨hx, hb, hml, hown, hts, hrt, hlk, hnm, hK, hro, hB, hRS⟩ := hC
  obtain ⟨q0, hq⟩ := Pic.at (H := H) ha he
  refine va_iald hx hb hK.1 hP q0 0 hq rfl (iI_in hi hN hn) hd ?_
  rw [iI_clamp hi (by omega)]
  exact kk _ hL
theorem T.lald {n i : Nat} {f : Nat → Int64} {x : Int} (hd : decode M.2.1 pc = .ok (.laload, 1)) (ha : inH E h a) (he : h.2.2 a = .inl (E.2.2.2.1 1, n, .inr (.inl f))) (hi : x = i) (hN : i < n) (hn : n < 2147483648) (kt : T E d M (pc + 1) ls (.long (f i) :: st) h Q) : T E d M pc ls (.int (iI x) :: .ref a :: st) h Q := by
  refine T.pl ?_ kt
  intro p e R s m args below meth c hC hf hl H lsA locs cells slots Q hP hS hL hcl hsl hz kk
  obtain ⟨hx, hb, hml, hown, hts, hrt, hlk, hnm, hK, hro, hB, hRS⟩ := hC
  obtain ⟨q0, hq⟩ := Pic.at (H := H) ha he
  refine va_lald hx hb hK.1 hP q0 1 hq rfl (iI_in hi hN hn) hd ?_
  rw [iI_clamp hi (by omega)]
  exact kk _ hL
theorem T.zald {n i : Nat} {f : Nat → Int32} {x : Int} (hd : decode M.2.1 pc = .ok (.baload, 1)) (ha : inH E h a) (he : h.2.2 a = .inl (E.2.2.2.1 2, n, .inl f)) (hi : x = i) (hN : i < n) (hn : n < 2147483648) (kt : T E d M (pc + 1) ls (.int (f i) :: st) h Q) : T E d M pc ls (.int (iI x) :: .ref a :: st) h Q := by
  refine T.pl ?_ kt
  intro p e R s m args below meth c hC hf hl H lsA locs cells slots Q hP hS hL hcl hsl hz kk
  obtain ⟨hx, hb, hml, hown, hts, hrt, hlk, hnm, hK, hro, hB, hRS⟩ := hC
  obtain ⟨q0, hq⟩ := Pic.at (H := H) ha he
  refine va_zald hx hb hK.1 hP q0 2 hq rfl (iI_in hi hN hn) hd ?_
  rw [iI_clamp hi (by omega)]
  exact kk _ hL
theorem T.aald {n i t0 : Nat} {C : String} {f : Nat → Option Nat} {x : Int} (hd : decode M.2.1 pc = .ok (.aaload, 1)) (ha : inH E h a) (he : h.2.2 a = .inl (E.2.2.2.1 t0, n, .inr (.inr (.inr (.inr f))))) (ht : (tyL E.2.2.2.1)[t0]? = some (E.2.2.2.1 t0, .object C)) (hi : x = i) (hN : i < n) (hn : n < 2147483648) (kt : T E d M (pc + 1) ls (va_rf (f i) :: st) h Q) : T E d M pc ls (.int (iI x) :: .ref a :: st) h Q := by
  refine T.pl ?_ kt
  intro p e R s m args below meth c hC hf hl H lsA locs cells slots Q hP hS hL hcl hsl hz kk
  obtain ⟨hx, hb, hml, hown, hts, hrt, hlk, hnm, hK, hro, hB, hRS⟩ := hC
  obtain ⟨q0, hq⟩ := Pic.at (H := H) ha he
  refine va_aldq hx hb hK.1 hP q0 t0 hq ht (iI_in hi hN hn) hd ?_
  rw [iI_clamp hi (by omega)]
  exact kk _ hL
theorem T.alen {n t0 : Nat} {ty : FieldType} {c0 : (Nat → Int32) ⊕ (Nat → Int64) ⊕ (Nat → UInt32) ⊕ (Nat → UInt64) ⊕ (Nat → Option Nat)} (hd : decode M.2.1 pc = .ok (.arraylength, 1)) (ha : inH E h a) (he : h.2.2 a = .inl (E.2.2.2.1 t0, n, c0)) (ht : (tyL E.2.2.2.1)[t0]? = some (E.2.2.2.1 t0, ty)) (kt : T E d M (pc + 1) ls (.int (iI n) :: st) h Q) : T E d M pc ls (.ref a :: st) h Q := by
  refine T.pl ?_ kt
  intro p e R s m args below meth c hC hf hl H lsA locs cells slots Q hP hS hL hcl hsl hz kk
  obtain ⟨hx, hb, hml, hown, hts, hrt, hlk, hnm, hK, hro, hB, hRS⟩ := hC
  obtain ⟨q0, hq⟩ := Pic.at (H := H) ha he
  exact va_alen hx hb hK.1 hP q0 t0 hq ht (v := iI n) (by unfold iI; exact (Int32.ofInt_eq_ofNat (n := n)).symm) hd (kk _ hL)
theorem T.iast {n i : Nat} {f : Nat → Int32} {x : Int} {v : Int32} (hd : decode M.2.1 pc = .ok (.iastore, 1)) (ha : inH E h a) (he : h.2.2 a = .inl (E.2.2.2.1 0, n, .inl f)) (hi : x = i) (hN : i < n) (hn : n < 2147483648) (kt : T E d M (pc + 1) ls st (hst h a (.inl (E.2.2.2.1 0, n, .inl (upd f i v)))) Q) : T E d M pc ls (.int v :: .int (iI x) :: .ref a :: st) h Q := by
  refine T.ph (h1 := hst h a (.inl (E.2.2.2.1 0, n, .inl (upd f i v)))) ⟨Nat.le_refl _, Nat.le_refl _, ?_⟩ kt
  intro p e R s m args below meth c hC hf hl H lsA locs cells slots Q hP hS hL hcl hsl hz kk
  obtain ⟨hx, hb, hml, hown, hts, hrt, hlk, hnm, hK, hro, hB, hRS⟩ := hC
  obtain ⟨q0, hq⟩ := Pic.at (H := H) ha he
  simp only [Nat.sub_self, Nat.add_zero] at kk
  refine va_iast hx hb hK.1 hP Pic.D hS q0 0 hq rfl (iI_in hi hN hn) hd (fun H1 locs1 k1 k2 k3 => ?_)
  rw [iI_clamp hi (by omega)] at k1
  exact kk H1 locs1 _ (Pic.set ha he hq k1) k3 hL
theorem T.last {n i : Nat} {f : Nat → Int64} {x : Int} {v : Int64} (hd : decode M.2.1 pc = .ok (.lastore, 1)) (ha : inH E h a) (he : h.2.2 a = .inl (E.2.2.2.1 1, n, .inr (.inl f))) (hi : x = i) (hN : i < n) (hn : n < 2147483648) (kt : T E d M (pc + 1) ls st (hst h a (.inl (E.2.2.2.1 1, n, .inr (.inl (vp_updL f i v))))) Q) : T E d M pc ls (.long v :: .int (iI x) :: .ref a :: st) h Q := by
  refine T.ph (h1 := hst h a (.inl (E.2.2.2.1 1, n, .inr (.inl (vp_updL f i v))))) ⟨Nat.le_refl _, Nat.le_refl _, ?_⟩ kt
  intro p e R s m args below meth c hC hf hl H lsA locs cells slots Q hP hS hL hcl hsl hz kk
  obtain ⟨hx, hb, hml, hown, hts, hrt, hlk, hnm, hK, hro, hB, hRS⟩ := hC
  obtain ⟨q0, hq⟩ := Pic.at (H := H) ha he
  simp only [Nat.sub_self, Nat.add_zero] at kk
  refine va_last hx hb hK.1 hP Pic.D hS q0 1 hq rfl (iI_in hi hN hn) hd (fun H1 locs1 k1 k2 k3 => ?_)
  rw [iI_clamp hi (by omega)] at k1
  exact kk H1 locs1 _ (Pic.set ha he hq k1) k3 hL
theorem T.zast {n i : Nat} {f : Nat → Int32} {x y : Int} (hd : decode M.2.1 pc = .ok (.bastore, 1)) (ha : inH E h a) (he : h.2.2 a = .inl (E.2.2.2.1 2, n, .inl f)) (hi : x = i) (hN : i < n) (hn : n < 2147483648) (hy : y = 0 ∨ y = 1) (kt : T E d M (pc + 1) ls st (hst h a (.inl (E.2.2.2.1 2, n, .inl (upd f i (iI y))))) Q) : T E d M pc ls (.int (iI y) :: .int (iI x) :: .ref a :: st) h Q := by
  refine T.ph (h1 := hst h a (.inl (E.2.2.2.1 2, n, .inl (upd f i (iI y))))) ⟨Nat.le_refl _, Nat.le_refl _, ?_⟩ kt
  intro p e R s m args below meth c hC hf hl H lsA locs cells slots Q hP hS hL hcl hsl hz kk
  obtain ⟨hx, hb, hml, hown, hts, hrt, hlk, hnm, hK, hro, hB, hRS⟩ := hC
  obtain ⟨q0, hq⟩ := Pic.at (H := H) ha he
  simp only [Nat.sub_self, Nat.add_zero] at kk
  refine va_zast hx hb hK.1 hP Pic.D hS q0 2 hq rfl (iI_in hi hN hn) hd (fun H1 locs1 k1 k2 k3 => ?_)
  rw [iI_clamp hi (by omega), npZ hy] at k1
  exact kk H1 locs1 _ (Pic.set ha he hq k1) k3 hL
theorem T.aast {n i t0 ci b : Nat} {q : vw_C} {vs : List Value} {f : Nat → Option Nat} {x : Int} (hd : decode M.2.1 pc = .ok (.aastore, 1)) (ha : inH E h a) (he : h.2.2 a = .inl (E.2.2.2.1 t0, n, .inr (.inr (.inr (.inr f))))) (ht : (tyL E.2.2.2.1)[t0]? = some (E.2.2.2.1 t0, .object q.1)) (hb0 : inH E h b) (hbe : h.2.2 b = .inr (ci, vs)) (hci : vwCl[ci]? = some q) (hi : x = i) (hN : i < n) (hn : n < 2147483648) (kt : T E d M (pc + 1) ls st (hst h a (.inl (E.2.2.2.1 t0, n, .inr (.inr (.inr (.inr (va_up f i (some b)))))))) Q) : T E d M pc ls (.ref b :: .int (iI x) :: .ref a :: st) h Q := by
  refine T.ph (h1 := hst h a (.inl (E.2.2.2.1 t0, n, .inr (.inr (.inr (.inr (va_up f i (some b)))))))) ⟨Nat.le_refl _, Nat.le_refl _, ?_⟩ kt
  intro p e R s m args below meth c hC hf hl H lsA locs cells slots Q hP hS hL hcl hsl hz kk
  obtain ⟨hx, hb, hml, hown, hts, hrt, hlk, hnm, hK, hro, hB, hRS⟩ := hC
  obtain ⟨q0, hq⟩ := Pic.at (H := H) ha he
  obtain ⟨q1, hq1⟩ := Pic.at (H := H) hb0 hbe
  simp only [Nat.sub_self, Nat.add_zero] at kk
  refine va_astq hx hb hK.1 hP Pic.D hS q0 t0 q1 ci hq ht hq1 hci (iI_in hi hN hn) hd (fun H1 locs1 k1 k2 k3 => ?_)
  rw [iI_clamp hi (by omega)] at k1
  exact kk H1 locs1 _ (Pic.set ha he hq k1) k3 hL
-- makings
theorem Pic.push {H H1 : Heap} {e : va_E} (n : Nat) (hP : Pic E h H) (hz : H.size = E.2.2.1 + h.1) (o1 : ∀ q : Nat, q < H.size → H1[q]? = H[q]?) (hE : va_at E.2.1 vwCl (E.2.2.1 + h.1, e) H1) : Pic E (hnw E h n e) H1 := by
  show va_P E.2.1 vwCl (va_pl (adl E.2.2.1 (h.1 + 1)) (va_up h.2.2 (E.2.2.1 + h.1) e)) H1
  rw [adl_succ, ← va_pl_push (fun z => by have := (mem_adl.mp z).2; omega)]
  refine va_P.app (va_P.kept hP (fun k q hk => o1 q.1 ((hP k q hk).lt))) ?_
  intro k q hk
  have h0 : k < 1 := (List.getElem?_eq_some_iff.mp hk).1
  rw [show k = 0 by omega] at hk
  cases hk
  exact hE
theorem va_S.more {A : Nat → Prop} {H0 H H1 : Heap} {locs : List Loc} (hS : va_S A H0 H locs) (hz : H.size ≤ H1.size) (o1 : ∀ q : Nat, q < H.size → H1[q]? = H[q]?) : va_S A H0 H1 locs := ⟨Nat.le_trans hS.1 hz, fun x h1 h2 => (o1 x (Nat.lt_of_lt_of_le h1 hS.1)).trans (hS.2.1 x h1 h2), hS.2.2⟩
theorem T.new {idx ci : Nat} {fs : List Value} (hd : decode M.2.1 pc = .ok (.new idx, 3)) (hN : NO M.1.cls idx ci fs) (kt : T E d M (pc + 3) ls (.ref (E.2.2.1 + h.1) :: st) (hnw E h fs.length (.inr (ci, fs))) Q) : T E d M pc ls st h Q := by
  refine T.ph (h1 := hnw E h fs.length (.inr (ci, fs))) ⟨Nat.le_succ _, Nat.le_add_right _ _, ?_⟩ kt
  intro p e R s m args below meth c hC hf hl H lsA locs cells slots Q hP hS hL hcl hsl hz kk
  obtain ⟨hx, hb, hml, hown, hts, hrt, hlk, hnm, hK, hro, hB, hRS⟩ := hC
  obtain ⟨C, T0, N, ty0, f1, f2, f3, f4, f5, f6, f7, f8⟩ := hN
  refine W.sz (fun hsz => ?_)
  have hz2 := hP.ge hB hS
  have hz1 : H.size = E.2.2.1 + h.1 := by omega
  have hKn := hK.1.1 ci _ f1
  have a1 : h.1 + 1 - h.1 = 1 := by omega
  have a2 : h.2.1 + fs.length - h.2.1 = N := by omega
  simp only [a1, a2] at kk hcl hsl
  refine W.newcK hx hb hown (hts _ f4) (hts _ f5) (hts _ f6) rfl hd hcl hsl hKn.2.1 hz1 fun H1 kC hkC e1 z1 o1 => ?_
  refine kk H1 locs lsA (Pic.push _ hP hz1 (fun q hq => o1 q (by omega)) ?_) (hS.more (by omega) (fun q hq => o1 q (by omega))) hL
  exact ⟨_, f1, (u_born ty0 hts f2 hKn hkC e1 f3).to f7⟩
theorem T.newa {atype : ArrayType} {n t0 : Nat} {x : Int} {a0 : vp_A} (hd : decode M.2.1 pc = .ok (.newarray atype, 2)) (hw : Cond.arrayClass (newarray.typeOf atype) ∈ wA) (ht : (tyL E.2.2.2.1)[t0]? = some (E.2.2.2.1 t0, newarray.typeOf atype)) (h0 : ∀ cA : ClassId, vp_cell cA a0 = arrV cA n (fun _ => defaultValue (newarray.typeOf atype))) (hi : x = n) (hn : n < 2147483648) (hby : n * componentBytes (newarray.typeOf atype) ≤ 536870912) (hpr : ∀ cA : ClassId, ∀ U : State, va_RA U cA (newarray.typeOf atype) → U.vm.findClass ("[" ++ (newarray.typeOf atype).toString) = some cA) (kt : T E d M (pc + 2) ls (.ref (E.2.2.1 + h.1) :: st) (hnw E h n (.inl (E.2.2.2.1 t0, a0))) Q) : T E d M pc ls (.int (iI x) :: st) h Q := by
  refine T.ph (h1 := hnw E h n (.inl (E.2.2.2.1 t0, a0))) ⟨Nat.le_succ _, Nat.le_add_right _ _, ?_⟩ kt
  intro p e R s m args below meth c hC hf hl H lsA locs cells slots Q hP hS hL hcl hsl hz kk
  obtain ⟨hx, hb, hml, hown, hts, hrt, hlk, hnm, hK, hro, hB, hRS⟩ := hC
  refine W.sz (fun hsz => ?_)
  have hz2 := hP.ge hB hS
  have hz1 : H.size = E.2.2.1 + h.1 := by omega
  have a1 : h.1 + 1 - h.1 = 1 := by omega
  have a2 : h.2.1 + n - h.2.1 = n := by omega
  simp only [a1, a2] at kk hcl hsl
  have hc0 : ¬ iI x < 0 := by
    rw [show (0 : Int32) = iI 0 from rfl, iI_lt (by unfold rg; omega) (by unfold rg; omega)]; omega
  refine va_newaK hx hb (hts _ hw) rfl hd rfl hc0 (iI_clamp hi (by omega)) hby hcl hsl hz1 fun H1 cA e1 z1 o1 hAr hNm => ?_
  have hcA : cA = E.2.2.2.1 t0 := Option.some.inj (hNm.symm.trans (hpr _ _ (hK.1.2 t0 _ ht).2))
  subst hcA
  refine kk H1 locs lsA (Pic.push _ hP hz1 (fun q hq => o1 q (by omega)) ?_) (hS.more (by omega) (fun q hq => o1 q (by omega))) hL
  show H1[_]? = some (vp_cell _ _)
  rw [h0]
  exact e1
theorem T.anew {idx n t0 : Nat} {x : Int} {C : String} (hd : decode M.2.1 pc = .ok (.anewarray idx, 3)) (hw : Cond.classLink M.1.cls idx C ∈ wA) (hao : C ∈ aoL) (ht : (tyL E.2.2.2.1)[t0]? = some (E.2.2.2.1 t0, .object C)) (hi : x = n) (hn : n < 100000000) (kt : T E d M (pc + 3) ls (.ref (E.2.2.1 + h.1) :: st) (hnw E h n (.inl (E.2.2.2.1 t0, n, .inr (.inr (.inr (.inr (fun _ => none))))))) Q) : T E d M pc ls (.int (iI x) :: st) h Q := by
  refine T.ph (h1 := hnw E h n (.inl (E.2.2.2.1 t0, n, .inr (.inr (.inr (.inr (fun _ => none))))))) ⟨Nat.le_succ _, Nat.le_add_right _ _, ?_⟩ kt
  intro p e R s m args below meth c hC hf hl H lsA locs cells slots Q hP hS hL hcl hsl hz kk
  obtain ⟨hx, hb, hml, hown, hts, hrt, hlk, hnm, hK, hro, hB, hRS⟩ := hC
  refine W.sz (fun hsz => ?_)
  have hz2 := hP.ge hB hS
  have hz1 : H.size = E.2.2.1 + h.1 := by omega
  have a1 : h.1 + 1 - h.1 = 1 := by omega
  have a2 : h.2.1 + n - h.2.1 = n := by omega
  simp only [a1, a2] at kk hcl hsl
  have hc0 : ¬ iI x < 0 := by
    rw [show (0 : Int32) = iI 0 from rfl, iI_lt (by unfold rg; omega) (by unfold rg; omega)]; omega
  have hcn := iI_clamp hi (by omega)
  refine W.anew hx hb hown (hts _ hw) (va_AO.use (hK.2.2 C hao)) rfl hd rfl hc0 (by rw [hcn]; omega) hcl (by rw [hcn]; exact hsl) fun cA kA comp f1 f2 f3 f4 => ?_
  obtain ⟨kA2, comp2, g1, g2, g3, g4⟩ := (hK.1.2 t0 _ ht).2
  have hcA : cA = E.2.2.2.1 t0 := Option.some.inj (f1.symm.trans g4)
  subst hcA
  rw [hcn]
  generalize hH1 : H.push ({ cls := E.2.2.2.1 t0, slots := Array.replicate n .null, vm := .none } : Cell) = H1
  have z1 : H1.size = H.size + 1 := by rw [← hH1, Array.size_push]
  have e1 : H1[H.size]? = some (arrV (E.2.2.2.1 t0) n (fun _ => .null)) := by rw [← hH1, Array.getElem?_push_size, ← arrV_new]
  have o1 : ∀ q : Nat, q < H.size → H1[q]? = H[q]? := fun q hq => by rw [← hH1, Array.getElem?_push, if_neg (Nat.ne_of_lt hq)]
  rw [hz1]
  refine kk H1 locs lsA (Pic.push _ hP hz1 o1 ?_) (hS.more (by omega) o1) hL
  show H1[E.2.2.1 + h.1]? = some (vp_cell _ _)
  rw [← hz1, e1, vp_cell_q]
  rfl
end HEAP
