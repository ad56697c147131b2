-- ===== rows for constructors =====
theorem vu_up {α : Type} (f : Nat → α) (a : Nat) (e e' : α) : va_up (va_up f a e) a e' = va_up f a e' := by
  funext q; unfold va_up; split <;> rfl
theorem vu_id {α : Type} {f : Nat → α} {a : Nat} {e : α} (h : f a = e) : va_up f a e = f := by
  funext q; unfold va_up; split
  · rename_i x; rw [x, h]
  · rfl
theorem vu_cm {α : Type} (f : Nat → α) {a b : Nat} (e e' : α) (h : a ≠ b) : va_up (va_up f a e) b e' = va_up (va_up f b e') a e := by
  funext q; unfold va_up
  by_cases h1 : q = a <;> by_cases h2 : q = b <;> simp_all
/-- a row of nulls -/
def nl (E : Ev) (t n : Nat) : va_E := .inl (E.2.2.2.1 t, n, .inr (.inr (.inr (.inr (fun _ => none)))))
/-- a row of references, the first k set -/
def rk (E : Ev) (t n : Nat) (f : Nat → Nat) (k : Nat) : va_E := .inl (E.2.2.2.1 t, n, .inr (.inr (.inr (.inr (fun x => if x < k then some (f x) else none)))))
theorem rk_0 (E : Ev) (t n : Nat) (f : Nat → Nat) : nl E t n = rk E t n f 0 := by
  unfold nl rk
  congr 7
section CON
variable {E : Ev} {d : Nat} {M N : MI} {pc idx : Nat} {ls : List (Option Value)} {st : List Value} {Q : Option Value → Hp → Prop} {G : Nat → va_E} {n s a : Nat}
theorem T.eqv {h h' : Hp} (h1 : h'.1 = h.1) (h2 : h'.2.1 = h.2.1) (hP : ∀ H, Pic E h H → Pic E h' H) (kt : T E d M pc ls st h' Q) : T E d M pc ls st h Q := by
  refine T.ph (h1 := h') ⟨by omega, by omega, ?_⟩ kt
  intro p e R s m args below meth c hC hf hl H lsA locs cells slots Q hP0 hS hL hcl hsl hz kk
  have := kk H locs lsA (hP H hP0) hS hL
  rw [show cells + (h'.1 - h.1) = cells by omega, show slots + (h'.2.1 - h.2.1) = slots by omega] at this
  exact this
theorem T.pf {ci k : Nat} {fs fs' : List Value} {v : Value} {ty : FieldType} (hd : decode M.2.1 pc = .ok (.putfield idx, 3)) (hF : FP M.1.cls idx ci k ty false) (ha : E.2.2.1 ≤ a ∧ a < E.2.2.1 + n) (hn : narrow ty v = v) (hfit : fits ty v = true) (hlen : k < fs.length) (hs : fs.set k v = fs') (kt : T E d M (pc + 3) ls st (n, s, va_up G a (.inr (ci, fs'))) Q) : T E d M pc ls (v :: .ref a :: st) (n, s, va_up G a (.inr (ci, fs))) Q := by
  refine T.putf hd hF ha (va_up_self _ _ _) hn hfit hlen ?_
  show T E d M (pc + 3) ls st (n, s, va_up (va_up G a _) a _) Q
  rw [vu_up, hs]; exact kt
theorem T.pF {ci k : Nat} {fs fs' : List Value} {v : Value} {ty : FieldType} (hd : decode M.2.1 pc = .ok (.putfield idx, 3)) (hF : FP M.1.cls idx ci k ty true) (hi : M.1.name = "<init>") (ha : E.2.2.1 ≤ a ∧ a < E.2.2.1 + n) (hn : narrow ty v = v) (hfit : fits ty v = true) (hlen : k < fs.length) (hs : fs.set k v = fs') (kt : T E d M (pc + 3) ls st (n, s, va_up G a (.inr (ci, fs'))) Q) : T E d M pc ls (v :: .ref a :: st) (n, s, va_up G a (.inr (ci, fs))) Q := by
  refine T.putF hd hF hi ha (va_up_self _ _ _) hn hfit hlen ?_
  show T E d M (pc + 3) ls st (n, s, va_up (va_up G a _) a _) Q
  rw [vu_up, hs]; exact kt
theorem T.zi {N0 : Nat} {F : Nat → va_E} {n : Nat} {x : Int} (hd : decode M.2.1 pc = .ok (.newarray .int, 2)) (hi : x = n) (hn : n < 100000) (hG : F (E.2.2.1 + N0) = ints E n (fun _ => 0)) (kt : T E d M (pc + 2) ls (.ref (E.2.2.1 + N0) :: st) (N0 + 1, s + n, F) Q) : T E d M pc ls (.int (iI x) :: st) (N0, s, F) Q := by
  refine T.newa (n := n) (t0 := 0) (a0 := (n, .inl (fun _ => iI 0))) hd ac_int rfl (fun _ => rfl) hi (by omega) (by show n * 4 ≤ _; omega) (fun cA U h => h) ?_
  show T E d M (pc + 2) ls _ (N0 + 1, s + n, va_up F (E.2.2.1 + N0) (ints E n (fun _ => 0))) Q
  rw [vu_id hG]; exact kt
theorem T.zl {N0 : Nat} {F : Nat → va_E} {n : Nat} {x : Int} (hd : decode M.2.1 pc = .ok (.newarray .long, 2)) (hi : x = n) (hn : n < 100000) (hG : F (E.2.2.1 + N0) = longs E n (fun _ => 0)) (kt : T E d M (pc + 2) ls (.ref (E.2.2.1 + N0) :: st) (N0 + 1, s + n, F) Q) : T E d M pc ls (.int (iI x) :: st) (N0, s, F) Q := by
  refine T.newa (n := n) (t0 := 1) (a0 := (n, .inr (.inl (fun _ => lI 0)))) hd ac_long rfl (fun _ => rfl) hi (by omega) (by show n * 8 ≤ _; omega) (fun cA U h => h) ?_
  show T E d M (pc + 2) ls _ (N0 + 1, s + n, va_up F (E.2.2.1 + N0) (longs E n (fun _ => 0))) Q
  rw [vu_id hG]; exact kt
theorem T.zz {N0 : Nat} {F : Nat → va_E} {n : Nat} {x : Int} (hd : decode M.2.1 pc = .ok (.newarray .boolean, 2)) (hi : x = n) (hn : n < 100000) (hG : F (E.2.2.1 + N0) = bools E n (fun _ => 0)) (kt : T E d M (pc + 2) ls (.ref (E.2.2.1 + N0) :: st) (N0 + 1, s + n, F) Q) : T E d M pc ls (.int (iI x) :: st) (N0, s, F) Q := by
  refine T.newa (n := n) (t0 := 2) (a0 := (n, .inl (fun _ => iI 0))) hd ac_boolean rfl (fun _ => rfl) hi (by omega) (by show n * 1 ≤ _; omega) (fun cA U h => h) ?_
  show T E d M (pc + 2) ls _ (N0 + 1, s + n, va_up F (E.2.2.1 + N0) (bools E n (fun _ => 0))) Q
  rw [vu_id hG]; exact kt
theorem T.zn {N0 n t0 : Nat} {e : va_E} {x : Int} {C : String} (hd : decode M.2.1 pc = .ok (.anewarray idx, 3)) (hw : Cond.classLink M.1.cls idx C ∈ wA) (hao : C ∈ aoL) (ht : (tyL E.2.2.2.1)[t0]? = some (E.2.2.2.1 t0, .object C)) (hi : x = n) (hn : n < 100000) (ha : a ≠ E.2.2.1 + N0) (kt : T E d M (pc + 3) ls (.ref (E.2.2.1 + N0) :: st) (N0 + 1, s + n, va_up (va_up G (E.2.2.1 + N0) (nl E t0 n)) a e) Q) : T E d M pc ls (.int (iI x) :: st) (N0, s, va_up G a e) Q := by
  refine T.anew (n := n) (t0 := t0) hd hw hao ht hi (by omega) ?_
  show T E d M (pc + 3) ls _ (N0 + 1, s + n, va_up (va_up G a e) (E.2.2.1 + N0) (nl E t0 n)) Q
  rw [vu_cm _ _ _ ha]; exact kt
theorem T.mkI {idx2 ci dc n' s' : Nat} {fs : List Value} (hd1 : decode M.2.1 pc = .ok (.new idx, 3)) (hd2 : decode M.2.1 (pc + 3) = .ok (.dup, 1)) (hd3 : decode M.2.1 (pc + 3 + 1) = .ok (.invokespecial idx2, 3)) (hN : NO M.1.cls idx ci fs) (hk : LKI M.1.cls idx2 N 0) (hct : CT E dc N [.ref (E.2.2.1 + n)] (n + 1, s + fs.length, va_up G (E.2.2.1 + n) (.inr (ci, fs))) none (n', s', G)) (hdc : dc + 1 ≤ d) (hrm : ((Value.ref 0 :: st).map fun v => v.category).sum ≤ 8) (kt : T E d M (pc + 3 + 1 + 3) ls (.ref (E.2.2.1 + n) :: st) (n', s', G) Q) : T E d M pc ls st (n, s, G) Q := by
  refine T.new hd1 hN ?_
  refine T.dup hd2 ?_
  exact T.callI (As := []) (st := .ref (E.2.2.1 + n) :: st) hd3 hk hct hdc rfl rfl hrm kt
theorem T.mkN {idx2 ci dc n' s' : Nat} {fs : List Value} (hd1 : decode M.2.1 pc = .ok (.new idx, 3)) (hd2 : decode M.2.1 (pc + 3) = .ok (.dup, 1)) (hd3 : decode M.2.1 (pc + 3 + 1) = .ok (.invokespecial idx2, 3)) (hN : NO M.1.cls idx ci fs) (hk : LKN M.1.cls idx2 N 0) (hct : CT E dc N [.ref (E.2.2.1 + n)] (n + 1, s + fs.length, va_up G (E.2.2.1 + n) (.inr (ci, fs))) none (n', s', G)) (hdc : dc + 1 ≤ d) (hrm : ((Value.ref 0 :: st).map fun v => v.category).sum ≤ 8) (kt : T E d M (pc + 3 + 1 + 3) ls (.ref (E.2.2.1 + n) :: st) (n', s', G) Q) : T E d M pc ls st (n, s, G) Q := by
  refine T.new hd1 hN ?_
  refine T.dup hd2 ?_
  exact T.callN (As := []) (st := .ref (E.2.2.1 + n) :: st) hd3 hk hct hdc rfl rfl hrm kt
/-- a filled row of references is the row -/
theorem T.full {t N0 : Nat} {f : Nat → Nat} {x : Nat} {n : Nat} (hG : G x = refs E t N0 f) (kt : T E d M pc ls st (n, s, G) Q) : T E d M pc ls st (n, s, va_up G x (rk E t N0 f N0)) Q := by
  refine T.eqv (h' := (n, s, G)) rfl rfl ?_ kt
  intro H hP
  intro k q hk
  have hk2 := hk
  simp only [va_pl, List.getElem?_map, Option.map_eq_some_iff] at hk
  obtain ⟨b, hb, rfl⟩ := hk
  by_cases e : b = x
  · subst e
    have h1 := hP k (b, va_up G b (rk E t N0 f N0) b) (by simp only [va_pl, List.getElem?_map, Option.map_eq_some_iff]; exact ⟨b, hb, rfl⟩)
    rw [va_up_self] at h1
    show va_at _ _ (b, G b) H
    rw [hG]
    have h2 : H[b]? = some (vp_cell (E.2.2.2.1 t) (N0, .inr (.inr (.inr (.inr (fun x => if x < N0 then some (f x) else none)))))) := h1
    show H[b]? = some (vp_cell (E.2.2.2.1 t) (N0, .inr (.inr (.inr (.inr (fun x => some (f x)))))))
    rw [h2, vp_cell_q, vp_cell_q]
    unfold arrV
    congr 3
    funext j
    simp
  · have h1 := hP k (b, va_up G x (rk E t N0 f N0) b) (by simp only [va_pl, List.getElem?_map, Option.map_eq_some_iff]; exact ⟨b, hb, rfl⟩)
    rw [va_up_ne _ _ e] at h1
    exact h1
theorem T.aset {t N0 ci b : Nat} {f : Nat → Nat} {i : Nat} {q : vw_C} {vs : List Value} {y : Int} (hd : decode M.2.1 pc = .ok (.aastore, 1)) (ha : E.2.2.1 ≤ a ∧ a < E.2.2.1 + n) (ht : (tyL E.2.2.2.1)[t]? = some (E.2.2.2.1 t, .object q.1)) (hb : b = f i) (hb0 : E.2.2.1 ≤ b ∧ b < E.2.2.1 + n) (hne : b ≠ a) (hbe : G b = .inr (ci, vs)) (hci : vwCl[ci]? = some q) (hi : y = i) (hN : i < N0) (hn : N0 < 100000) (kt : T E d M (pc + 1) ls st (n, s, va_up G a (rk E t N0 f (i + 1))) Q) : T E d M pc ls (.ref b :: .int (iI y) :: .ref a :: st) (n, s, va_up G a (rk E t N0 f i)) Q := by
  refine T.aast (t0 := t) hd ha (va_up_self _ _ _) ht hb0 ((va_up_ne _ _ hne).trans hbe) hci hi hN (by omega) ?_
  show T E d M (pc + 1) ls st (n, s, va_up (va_up G a _) a _) Q
  rw [vu_up]
  have : (va_up (fun x => if x < i then some (f x) else none) i (some b)) = (fun x => if x < i + 1 then some (f x) else none) := by
    funext x
    unfold va_up
    by_cases h1 : x = i
    · subst h1; simp [hb]
    · by_cases h2 : x < i
      · simp [h1, h2, show x < i + 1 by omega]
      · simp [h1, h2, show ¬ x < i + 1 by omega]
  rw [this]
  exact kt
theorem T.gG {ci k : Nat} {fs : List Value} {v : Value} {F : Nat → va_E} (hd : decode M.2.1 pc = .ok (.getfield idx, 3)) (hF : FO M.1.cls idx ci k) (ha : E.2.2.1 ≤ a ∧ a < E.2.2.1 + n) (he : F a = .inr (ci, fs)) (hv : fs[k]? = some v) (kt : T E d M (pc + 3) ls (v :: st) (n, s, F) Q) : T E d M pc ls (.ref a :: st) (n, s, F) Q := T.getf hd hF ha he hv kt
end CON
-- ===== what the made cells are =====
section OK
variable (E : Ev) (G : Nat → va_E) (p : Nat)
def okDb : Prop := G (E.2.2.1 + p) = .inr (2, [.int (iI 0), .int (iI 0), .ref (E.2.2.1 + (p + 1))]) ∧ G (E.2.2.1 + (p + 1)) = ints E 6 (fun _ => 0)
def okPy : Prop := G (E.2.2.1 + p) = .inr (4, [.int (iI 0), .int (iI 0), .int (iI (-1)), .int (iI (-1))])
def okLw : Prop := G (E.2.2.1 + p) = .inr (3, [.ref (E.2.2.1 + (p + 1)), .int (iI 0), .int (iI 0)]) ∧ G (E.2.2.1 + (p + 1)) = ints E 10 (fun _ => 0)
def okSh : Prop := G (E.2.2.1 + p) = .inr (5, [.int (iI 0), .int (iI 0), .ref (E.2.2.1 + (p + 1)), .int (iI 0)]) ∧ G (E.2.2.1 + (p + 1)) = ints E 24 (fun _ => 0)
def okTp : Prop := G (E.2.2.1 + p) = .inr (6, [.ref (E.2.2.1 + (p + 1)), .int (iI 0)]) ∧ G (E.2.2.1 + (p + 1)) = ints E 40 (fun _ => 0)
def okBk : Prop := G (E.2.2.1 + p) = .inr (0, [.ref (E.2.2.1 + (p + 1)), .int (iI 0), .ref (E.2.2.1 + (p + 2)), .int (iI 0), .ref (E.2.2.1 + (p + 3))]) ∧ G (E.2.2.1 + (p + 1)) = refs E 4 8 (fun x => E.2.2.1 + (p + 4 + 2 * x)) ∧ G (E.2.2.1 + (p + 2)) = refs E 6 12 (fun x => E.2.2.1 + (p + 20 + x)) ∧ (∃ fl : Nat → Nat, G (E.2.2.1 + (p + 3)) = refs E 5 2 fl ∧ ∀ x, x < 2 → fl x = E.2.2.1 + (p + 32 + 2 * x)) ∧ (∀ i, i < 8 → okDb E G (p + 4 + 2 * i)) ∧ (∀ i, i < 12 → okPy E G (p + 20 + i)) ∧ ∀ i, i < 2 → okLw E G (p + 32 + 2 * i)
def okCo : Prop := G (E.2.2.1 + p) = .inr (1, [.ref (E.2.2.1 + (p + 1)), .ref (E.2.2.1 + (p + 37)), .int (iI 0), .int (iI (-1)), .ref (E.2.2.1 + (p + 39)), .ref (E.2.2.1 + (p + 40)), .ref (E.2.2.1 + (p + 41)), .ref (E.2.2.1 + (p + 42)), .ref (E.2.2.1 + (p + 43)), .ref (E.2.2.1 + (p + 44)), .ref (E.2.2.1 + (p + 45)), .ref (E.2.2.1 + (p + 46)), .ref (E.2.2.1 + (p + 47)), .long (lI 0)]) ∧ okBk E G (p + 1) ∧ okLw E G (p + 37) ∧ G (E.2.2.1 + (p + 39)) = longs E 8 (fun _ => 0) ∧ G (E.2.2.1 + (p + 40)) = longs E 8 (fun _ => 0) ∧ G (E.2.2.1 + (p + 41)) = ints E 8 (fun _ => 0) ∧ G (E.2.2.1 + (p + 42)) = ints E 8 (fun _ => 0) ∧ G (E.2.2.1 + (p + 43)) = ints E 8 (fun _ => 0) ∧ G (E.2.2.1 + (p + 44)) = bools E 8 (fun _ => 0) ∧ G (E.2.2.1 + (p + 45)) = ints E 8 (fun _ => 0) ∧ G (E.2.2.1 + (p + 46)) = longs E 8 (fun _ => 0) ∧ G (E.2.2.1 + (p + 47)) = longs E 8 (fun _ => 0)
def okWs : Prop := G (E.2.2.1 + p) = .inr (7, [.ref (E.2.2.1 + (p + 1)), .long (lI 0), .int (iI 0), .ref (E.2.2.1 + (p + 2)), .ref (E.2.2.1 + (p + 3)), .int (iI 0), .int (iI 0)]) ∧ G (E.2.2.1 + (p + 1)) = ints E 3 (fun _ => 0) ∧ G (E.2.2.1 + (p + 2)) = ints E 3 (fun _ => 0) ∧ G (E.2.2.1 + (p + 3)) = refs E 3 4 (fun x => E.2.2.1 + (p + 4 + 48 * x)) ∧ ∀ i, i < 4 → okCo E G (p + 4 + 48 * i)
def okPd : Prop := G (E.2.2.1 + p) = .inr (8, [.ref (E.2.2.1 + (p + 1)), .ref (E.2.2.1 + (p + 37)), .int (iI 0), .ref (E.2.2.1 + (p + 73)), .ref (E.2.2.1 + (p + 121)), .ref (E.2.2.1 + (p + 169)), .ref (E.2.2.1 + (p + 365)), .ref (E.2.2.1 + (p + 367))]) ∧ okBk E G (p + 1) ∧ okBk E G (p + 37) ∧ okCo E G (p + 73) ∧ okCo E G (p + 121) ∧ okWs E G (p + 169) ∧ okTp E G (p + 365) ∧ G (E.2.2.1 + (p + 367)) = refs E 7 4 (fun x => E.2.2.1 + (p + 368 + 2 * x)) ∧ ∀ i, i < 4 → okSh E G (p + 368 + 2 * i)
variable {E G p} {a : Nat} {e : va_E}
theorem okDb.up (h : okDb E G p) (ha : a < E.2.2.1 + p ∨ E.2.2.1 + p + 2 ≤ a) : okDb E (va_up G a e) p := by
  unfold okDb; rw [va_up_ne _ _ (by omega), va_up_ne _ _ (by omega)]; exact h
theorem okPy.up (h : okPy E G p) (ha : a < E.2.2.1 + p ∨ E.2.2.1 + p + 1 ≤ a) : okPy E (va_up G a e) p := by
  unfold okPy; rw [va_up_ne _ _ (by omega)]; exact h
theorem okLw.up (h : okLw E G p) (ha : a < E.2.2.1 + p ∨ E.2.2.1 + p + 2 ≤ a) : okLw E (va_up G a e) p := by
  unfold okLw; rw [va_up_ne _ _ (by omega), va_up_ne _ _ (by omega)]; exact h
theorem okSh.up (h : okSh E G p) (ha : a < E.2.2.1 + p ∨ E.2.2.1 + p + 2 ≤ a) : okSh E (va_up G a e) p := by
  unfold okSh; rw [va_up_ne _ _ (by omega), va_up_ne _ _ (by omega)]; exact h
theorem okTp.up (h : okTp E G p) (ha : a < E.2.2.1 + p ∨ E.2.2.1 + p + 2 ≤ a) : okTp E (va_up G a e) p := by
  unfold okTp; rw [va_up_ne _ _ (by omega), va_up_ne _ _ (by omega)]; exact h
theorem okBk.up (h : okBk E G p) (ha : a < E.2.2.1 + p ∨ E.2.2.1 + p + 36 ≤ a) : okBk E (va_up G a e) p := by
  obtain ⟨h1, h2, h3, h4, h5, h6, h7⟩ := h
  exact ⟨by rw [va_up_ne _ _ (by omega)]; exact h1, by rw [va_up_ne _ _ (by omega)]; exact h2, by rw [va_up_ne _ _ (by omega)]; exact h3, ⟨h4.choose, by rw [va_up_ne _ _ (by omega)]; exact h4.choose_spec.1, h4.choose_spec.2⟩, fun i hi => (h5 i hi).up (by omega), fun i hi => (h6 i hi).up (by omega), fun i hi => (h7 i hi).up (by omega)⟩
theorem okCo.up (h : okCo E G p) (ha : a < E.2.2.1 + p ∨ E.2.2.1 + p + 48 ≤ a) : okCo E (va_up G a e) p := by
  obtain ⟨h1, h2, h3, h4, h5, h6, h7, h8, h9, h10, h11, h12⟩ := h
  refine ⟨?_, h2.up (by omega), h3.up (by omega), ?_, ?_, ?_, ?_, ?_, ?_, ?_, ?_, ?_⟩ <;> (rw [va_up_ne _ _ (by omega)]; assumption)
theorem okWs.up (h : okWs E G p) (ha : a < E.2.2.1 + p ∨ E.2.2.1 + p + 196 ≤ a) : okWs E (va_up G a e) p := by
  obtain ⟨h1, h2, h3, h4, h5⟩ := h
  refine ⟨?_, ?_, ?_, ?_, fun i hi => (h5 i hi).up (by omega)⟩ <;> (rw [va_up_ne _ _ (by omega)]; assumption)
end OK
set_option maxHeartbeats 4000000 in
set_option maxRecDepth 100000 in
theorem i_Db (E : Ev) (G : Nat → va_E) (p s : Nat) (h : okDb E G p) : CT E 1 mX2_init [.ref (E.2.2.1 + p)] (p + 1, s, va_up G (E.2.2.1 + p) (.inr (2, [.int 0, .int 0, .null]))) none (p + 2, s + 6, G) := by
  refine CT.go okX2_init (Nat.le_of_ble_eq_true rfl) ?_
  show T E 1 mX2_init 0 [some (.ref (E.2.2.1 + p))] [] (p + 1, s, va_up G (E.2.2.1 + p) (.inr (2, [.int 0, .int 0, .null]))) _
  have hG0 := h.1
  refine T.aload_n dX2_init_0 rfl ?_
  refine T.objI dX2_init_1 lo_X2_3 ow_i ow_c (by omega) (Nat.le_of_ble_eq_true rfl) ?_
  refine T.aload_n dX2_init_4 rfl ?_
  refine T.bipush dX2_init_5 ?_
  refine T.zi (n := 6) dX2_init_7 rfl (by decide) (by rw [va_up_ne _ _ (by omega)]; exact h.2) ?_
  refine T.pF (fs' := [.int 0, .int 0, .ref (E.2.2.1 + (p + 1))]) dX2_init_9 fp_X2_9 rfl (by omega) rfl rfl (Nat.le_of_ble_eq_true rfl) rfl ?_
  exact T.vret dX2_init_12 ⟨rfl, Prod.ext rfl (Prod.ext rfl (vu_id hG0))⟩
set_option maxHeartbeats 4000000 in
set_option maxRecDepth 100000 in
theorem i_Py (E : Ev) (G : Nat → va_E) (p s : Nat) (h : okPy E G p) : CT E 1 mX4_init [.ref (E.2.2.1 + p)] (p + 1, s, va_up G (E.2.2.1 + p) (.inr (4, [.int 0, .int 0, .int 0, .int 0]))) none (p + 1, s + 0, G) := by
  refine CT.go okX4_init (Nat.le_of_ble_eq_true rfl) ?_
  show T E 1 mX4_init 0 [some (.ref (E.2.2.1 + p))] [] (p + 1, s, va_up G (E.2.2.1 + p) (.inr (4, [.int 0, .int 0, .int 0, .int 0]))) _
  have hG0 : G (E.2.2.1 + p) = _ := h
  refine T.aload_n dX4_init_0 rfl ?_
  refine T.objI dX4_init_1 lo_X4_3 ow_i ow_c (by omega) (Nat.le_of_ble_eq_true rfl) ?_
  refine T.aload_n dX4_init_4 rfl ?_
  refine T.iconst dX4_init_5 ?_
  refine T.pf (fs' := [.int 0, .int 0, .int (iI (-1)), .int 0]) dX4_init_6 fp_X4_9 (by omega) rfl rfl (Nat.le_of_ble_eq_true rfl) rfl ?_
  refine T.aload_n dX4_init_9 rfl ?_
  refine T.iconst dX4_init_10 ?_
  refine T.pf (fs' := [.int 0, .int 0, .int (iI (-1)), .int (iI (-1))]) dX4_init_11 fp_X4_15 (by omega) rfl rfl (Nat.le_of_ble_eq_true rfl) rfl ?_
  exact T.vret dX4_init_14 ⟨rfl, Prod.ext rfl (Prod.ext rfl (vu_id hG0))⟩
set_option maxHeartbeats 4000000 in
set_option maxRecDepth 100000 in
theorem i_Lw (E : Ev) (G : Nat → va_E) (p s : Nat) (h : okLw E G p) : CT E 1 mX3_init [.ref (E.2.2.1 + p)] (p + 1, s, va_up G (E.2.2.1 + p) (.inr (3, [.null, .int 0, .int 0]))) none (p + 2, s + 10, G) := by
  refine CT.go okX3_init (Nat.le_of_ble_eq_true rfl) ?_
  show T E 1 mX3_init 0 [some (.ref (E.2.2.1 + p))] [] (p + 1, s, va_up G (E.2.2.1 + p) (.inr (3, [.null, .int 0, .int 0]))) _
  have hG0 := h.1
  refine T.aload_n dX3_init_0 rfl ?_
  refine T.objI dX3_init_1 lo_X3_3 ow_i ow_c (by omega) (Nat.le_of_ble_eq_true rfl) ?_
  refine T.aload_n dX3_init_4 rfl ?_
  refine T.bipush dX3_init_5 ?_
  refine T.zi (n := 10) dX3_init_7 rfl (by decide) (by rw [va_up_ne _ _ (by omega)]; exact h.2) ?_
  refine T.pF (fs' := [.ref (E.2.2.1 + (p + 1)), .int 0, .int 0]) dX3_init_9 fp_X3_9 rfl (by omega) rfl rfl (Nat.le_of_ble_eq_true rfl) rfl ?_
  refine T.aload_n dX3_init_12 rfl ?_
  refine T.iconst dX3_init_13 ?_
  refine T.pf (fs' := [.ref (E.2.2.1 + (p + 1)), .int (iI (0)), .int 0]) dX3_init_14 fp_X3_15 (by omega) rfl rfl (Nat.le_of_ble_eq_true rfl) rfl ?_
  refine T.aload_n dX3_init_17 rfl ?_
  refine T.iconst dX3_init_18 ?_
  refine T.pf (fs' := [.ref (E.2.2.1 + (p + 1)), .int (iI (0)), .int (iI (0))]) dX3_init_19 fp_X3_19 (by omega) rfl rfl (Nat.le_of_ble_eq_true rfl) rfl ?_
  exact T.vret dX3_init_22 ⟨rfl, Prod.ext rfl (Prod.ext rfl (vu_id hG0))⟩
set_option maxHeartbeats 4000000 in
set_option maxRecDepth 100000 in
theorem i_Sh (E : Ev) (G : Nat → va_E) (p s : Nat) (h : okSh E G p) : CT E 1 mX5_init [.ref (E.2.2.1 + p)] (p + 1, s, va_up G (E.2.2.1 + p) (.inr (5, [.int 0, .int 0, .null, .int 0]))) none (p + 2, s + 24, G) := by
  refine CT.go okX5_init (Nat.le_of_ble_eq_true rfl) ?_
  show T E 1 mX5_init 0 [some (.ref (E.2.2.1 + p))] [] (p + 1, s, va_up G (E.2.2.1 + p) (.inr (5, [.int 0, .int 0, .null, .int 0]))) _
  have hG0 := h.1
  refine T.aload_n dX5_init_0 rfl ?_
  refine T.objI dX5_init_1 lo_X5_3 ow_i ow_c (by omega) (Nat.le_of_ble_eq_true rfl) ?_
  refine T.aload_n dX5_init_4 rfl ?_
  refine T.iconst dX5_init_5 ?_
  refine T.pf (fs' := [.int (iI (0)), .int 0, .null, .int 0]) dX5_init_6 fp_X5_9 (by omega) rfl rfl (Nat.le_of_ble_eq_true rfl) rfl ?_
  refine T.aload_n dX5_init_9 rfl ?_
  refine T.iconst dX5_init_10 ?_
  refine T.pf (fs' := [.int (iI (0)), .int (iI (0)), .null, .int 0]) dX5_init_11 fp_X5_15 (by omega) rfl rfl (Nat.le_of_ble_eq_true rfl) rfl ?_
  refine T.aload_n dX5_init_14 rfl ?_
  refine T.bipush dX5_init_15 ?_
  refine T.zi (n := 24) dX5_init_17 rfl (by decide) (by rw [va_up_ne _ _ (by omega)]; exact h.2) ?_
  refine T.pF (fs' := [.int (iI (0)), .int (iI (0)), .ref (E.2.2.1 + (p + 1)), .int 0]) dX5_init_19 fp_X5_19 rfl (by omega) rfl rfl (Nat.le_of_ble_eq_true rfl) rfl ?_
  refine T.aload_n dX5_init_22 rfl ?_
  refine T.iconst dX5_init_23 ?_
  refine T.pf (fs' := [.int (iI (0)), .int (iI (0)), .ref (E.2.2.1 + (p + 1)), .int (iI (0))]) dX5_init_24 fp_X5_23 (by omega) rfl rfl (Nat.le_of_ble_eq_true rfl) rfl ?_
  exact T.vret dX5_init_27 ⟨rfl, Prod.ext rfl (Prod.ext rfl (vu_id hG0))⟩
set_option maxHeartbeats 4000000 in
set_option maxRecDepth 100000 in
theorem i_Tp (E : Ev) (G : Nat → va_E) (p s : Nat) (h : okTp E G p) : CT E 1 mX6_init [.ref (E.2.2.1 + p)] (p + 1, s, va_up G (E.2.2.1 + p) (.inr (6, [.null, .int 0]))) none (p + 2, s + 40, G) := by
  refine CT.go okX6_init (Nat.le_of_ble_eq_true rfl) ?_
  show T E 1 mX6_init 0 [some (.ref (E.2.2.1 + p))] [] (p + 1, s, va_up G (E.2.2.1 + p) (.inr (6, [.null, .int 0]))) _
  have hG0 := h.1
  refine T.aload_n dX6_init_0 rfl ?_
  refine T.objI dX6_init_1 lo_X6_3 ow_i ow_c (by omega) (Nat.le_of_ble_eq_true rfl) ?_
  refine T.aload_n dX6_init_4 rfl ?_
  refine T.bipush dX6_init_5 ?_
  refine T.zi (n := 40) dX6_init_7 rfl (by decide) (by rw [va_up_ne _ _ (by omega)]; exact h.2) ?_
  refine T.pF (fs' := [.ref (E.2.2.1 + (p + 1)), .int 0]) dX6_init_9 fp_X6_9 rfl (by omega) rfl rfl (Nat.le_of_ble_eq_true rfl) rfl ?_
  refine T.aload_n dX6_init_12 rfl ?_
  refine T.iconst dX6_init_13 ?_
  refine T.pf (fs' := [.ref (E.2.2.1 + (p + 1)), .int (iI (0))]) dX6_init_14 fp_X6_15 (by omega) rfl rfl (Nat.le_of_ble_eq_true rfl) rfl ?_
  exact T.vret dX6_init_17 ⟨rfl, Prod.ext rfl (Prod.ext rfl (vu_id hG0))⟩
set_option maxHeartbeats 4000000 in
set_option maxRecDepth 100000 in
theorem i_Bk_l (E : Ev) (K : Nat → va_E) (p s : Nat) (f : Nat → Nat) (hf : ∀ x, x < 2 → f x = E.2.2.1 + (p + 32 + 2 * x)) (hthis : K (E.2.2.1 + p) = .inr (0, [.ref (E.2.2.1 + (p + 1)), .int (iI 0), .ref (E.2.2.1 + (p + 2)), .int (iI 0), .ref (E.2.2.1 + (p + 3))])) (hx : K (E.2.2.1 + (p + 3)) = refs E 5 2 f) (hel : ∀ i, i < 2 → okLw E K (p + 32 + 2 * i)) (Q : Option Value → Hp → Prop) (hK : T E 2 mX0_init 120 [some (.ref (E.2.2.1 + p)), none] [] (p + 32 + 2 * 2, s + 13 * 2, K) Q) : ∀ (k i : Nat), 2 - i = k → i ≤ 2 → T E 2 mX0_init 96 [some (.ref (E.2.2.1 + p)), some (.int (iI (i : Int)))] [] (p + 32 + 2 * i, s + 13 * i, va_up K (E.2.2.1 + (p + 3)) (rk E 5 2 f i)) Q := by
  intro k
  induction k using Nat.strongRecOn with
  | ind k ih =>
    intro i hk hi
    refine T.iload_n dX0_init_96 rfl ?_
    refine T.iconst dX0_init_97 ?_
    refine T.icmp_ge 120 dX0_init_98 (by unfold rg; omega) (by unfold rg; omega) (fun c1 => ?_) (fun c1 => ?_)
    · obtain rfl : i = 2 := by omega
      refine T.fgt (ls' := [some (.ref (E.2.2.1 + p)), none]) (by simp [lsw]) ?_
      exact T.full hx hK
    · refine T.aload_n dX0_init_101 rfl ?_
      refine T.gG dX0_init_102 fo_X0_32 (by omega) ((va_up_ne _ _ (by omega)).trans hthis) (by rfl) ?_
      refine T.iload_n dX0_init_105 rfl ?_
      refine T.mkN (dc := 1) dX0_init_106 dX0_init_109 dX0_init_110 no_X0_30 lk_X0_38 (i_Lw E _ (p + 32 + 2 * i) _ ((hel i (by omega)).up (by omega))) (by decide) (Nat.le_of_ble_eq_true rfl) ?_
      refine T.aset dX0_init_113 (by omega) rfl (hf i (by omega)).symm (by omega) (by omega) ((hel i (by omega)).1) rfl rfl (by omega) (by decide) ?_
      refine T.iinc (ls' := [some (.ref (E.2.2.1 + p)), some (.int (iI ((i : Int) + 1)))]) dX0_init_114 rfl rfl ?_
      refine T.goto 96 dX0_init_117 ?_
      have h0 := ih (2 - (i + 1)) (by omega) (i + 1) rfl (by omega)
      rw [show p + 32 + 2 * (i + 1) = p + 32 + 2 * i + 2 from by omega, show s + 13 * (i + 1) = s + 13 * i + 3 + 10 from by omega] at h0
      exact h0
set_option maxHeartbeats 4000000 in
set_option maxRecDepth 100000 in
theorem i_Bk_p (E : Ev) (K : Nat → va_E) (p s : Nat) (hthis : K (E.2.2.1 + p) = .inr (0, [.ref (E.2.2.1 + (p + 1)), .int (iI 0), .ref (E.2.2.1 + (p + 2)), .int (iI 0), .ref (E.2.2.1 + (p + 3))])) (hx : K (E.2.2.1 + (p + 2)) = refs E 6 12 (fun x => E.2.2.1 + (p + 20 + x))) (hel : ∀ i, i < 12 → okPy E K (p + 20 + i)) (Q : Option Value → Hp → Prop) (hK : T E 2 mX0_init 94 [some (.ref (E.2.2.1 + p)), none] [] (p + 20 + 12, s + 4 * 12, K) Q) : ∀ (k i : Nat), 12 - i = k → i ≤ 12 → T E 2 mX0_init 69 [some (.ref (E.2.2.1 + p)), some (.int (iI (i : Int)))] [] (p + 20 + i, s + 4 * i, va_up K (E.2.2.1 + (p + 2)) (rk E 6 12 (fun x => E.2.2.1 + (p + 20 + x)) i)) Q := by
  intro k
  induction k using Nat.strongRecOn with
  | ind k ih =>
    intro i hk hi
    refine T.iload_n dX0_init_69 rfl ?_
    refine T.bipush dX0_init_70 ?_
    refine T.icmp_ge 94 dX0_init_72 (by unfold rg; omega) (by unfold rg; omega) (fun c1 => ?_) (fun c1 => ?_)
    · obtain rfl : i = 12 := by omega
      refine T.fgt (ls' := [some (.ref (E.2.2.1 + p)), none]) (by simp [lsw]) ?_
      exact T.full hx hK
    · refine T.aload_n dX0_init_75 rfl ?_
      refine T.gG dX0_init_76 fo_X0_23 (by omega) ((va_up_ne _ _ (by omega)).trans hthis) (by rfl) ?_
      refine T.iload_n dX0_init_79 rfl ?_
      refine T.mkN (dc := 1) dX0_init_80 dX0_init_83 dX0_init_84 no_X0_21 lk_X0_37 (i_Py E _ (p + 20 + i) _ ((hel i (by omega)).up (by omega))) (by decide) (Nat.le_of_ble_eq_true rfl) ?_
      refine T.aset dX0_init_87 (by omega) rfl rfl (by omega) (by omega) ((hel i (by omega))) rfl rfl (by omega) (by decide) ?_
      refine T.iinc (ls' := [some (.ref (E.2.2.1 + p)), some (.int (iI ((i : Int) + 1)))]) dX0_init_88 rfl rfl ?_
      refine T.goto 69 dX0_init_91 ?_
      have h0 := ih (12 - (i + 1)) (by omega) (i + 1) rfl (by omega)
      rw [show p + 20 + (i + 1) = p + 20 + i + 1 from by omega, show s + 4 * (i + 1) = s + 4 * i + 4 + 0 from by omega] at h0
      exact h0
set_option maxHeartbeats 4000000 in
set_option maxRecDepth 100000 in
theorem i_Bk_d (E : Ev) (K : Nat → va_E) (p s : Nat) (hthis : K (E.2.2.1 + p) = .inr (0, [.ref (E.2.2.1 + (p + 1)), .int (iI 0), .ref (E.2.2.1 + (p + 2)), .int (iI 0), .ref (E.2.2.1 + (p + 3))])) (hx : K (E.2.2.1 + (p + 1)) = refs E 4 8 (fun x => E.2.2.1 + (p + 4 + 2 * x))) (hel : ∀ i, i < 8 → okDb E K (p + 4 + 2 * i)) (Q : Option Value → Hp → Prop) (hK : T E 2 mX0_init 67 [some (.ref (E.2.2.1 + p)), none] [] (p + 4 + 2 * 8, s + 9 * 8, K) Q) : ∀ (k i : Nat), 8 - i = k → i ≤ 8 → T E 2 mX0_init 42 [some (.ref (E.2.2.1 + p)), some (.int (iI (i : Int)))] [] (p + 4 + 2 * i, s + 9 * i, va_up K (E.2.2.1 + (p + 1)) (rk E 4 8 (fun x => E.2.2.1 + (p + 4 + 2 * x)) i)) Q := by
  intro k
  induction k using Nat.strongRecOn with
  | ind k ih =>
    intro i hk hi
    refine T.iload_n dX0_init_42 rfl ?_
    refine T.bipush dX0_init_43 ?_
    refine T.icmp_ge 67 dX0_init_45 (by unfold rg; omega) (by unfold rg; omega) (fun c1 => ?_) (fun c1 => ?_)
    · obtain rfl : i = 8 := by omega
      refine T.fgt (ls' := [some (.ref (E.2.2.1 + p)), none]) (by simp [lsw]) ?_
      exact T.full hx hK
    · refine T.aload_n dX0_init_48 rfl ?_
      refine T.gG dX0_init_49 fo_X0_11 (by omega) ((va_up_ne _ _ (by omega)).trans hthis) (by rfl) ?_
      refine T.iload_n dX0_init_52 rfl ?_
      refine T.mkN (dc := 1) dX0_init_53 dX0_init_56 dX0_init_57 no_X0_9 lk_X0_36 (i_Db E _ (p + 4 + 2 * i) _ ((hel i (by omega)).up (by omega))) (by decide) (Nat.le_of_ble_eq_true rfl) ?_
      refine T.aset dX0_init_60 (by omega) rfl rfl (by omega) (by omega) ((hel i (by omega)).1) rfl rfl (by omega) (by decide) ?_
      refine T.iinc (ls' := [some (.ref (E.2.2.1 + p)), some (.int (iI ((i : Int) + 1)))]) dX0_init_61 rfl rfl ?_
      refine T.goto 42 dX0_init_64 ?_
      have h0 := ih (8 - (i + 1)) (by omega) (i + 1) rfl (by omega)
      rw [show p + 4 + 2 * (i + 1) = p + 4 + 2 * i + 2 from by omega, show s + 9 * (i + 1) = s + 9 * i + 3 + 6 from by omega] at h0
      exact h0
set_option maxHeartbeats 4000000 in
set_option maxRecDepth 100000 in
theorem i_Bk (E : Ev) (G : Nat → va_E) (p s : Nat) (h : okBk E G p) : CT E 2 mX0_init [.ref (E.2.2.1 + p)] (p + 1, s, va_up G (E.2.2.1 + p) (.inr (0, [.null, .int 0, .null, .int 0, .null]))) none (p + 36, s + 168, G) := by
  refine CT.go okX0_init (Nat.le_of_ble_eq_true rfl) ?_
  show T E 2 mX0_init 0 [some (.ref (E.2.2.1 + p)), none] [] (p + 1, s, va_up G (E.2.2.1 + p) (.inr (0, [.null, .int 0, .null, .int 0, .null]))) _
  obtain ⟨h1, h2, h3, h4, h5, h6, h7⟩ := h
  refine T.aload_n dX0_init_0 rfl ?_
  refine T.objI dX0_init_1 lo_X0_3 ow_i ow_c (by omega) (Nat.le_of_ble_eq_true rfl) ?_
  refine T.aload_n dX0_init_4 rfl ?_
  refine T.bipush dX0_init_5 ?_
  refine T.zn (n := 8) (t0 := 4) (C := RX2) dX0_init_7 (wA_t 35 (by decide +kernel) rfl) (by decide) rfl rfl (by decide) (by omega) ?_
  refine T.pF (fs' := [.ref (E.2.2.1 + (p + 1)), .int 0, .null, .int 0, .null]) dX0_init_10 fp_X0_11 rfl (by omega) rfl rfl (Nat.le_of_ble_eq_true rfl) rfl ?_
  refine T.aload_n dX0_init_13 rfl ?_
  refine T.iconst dX0_init_14 ?_
  refine T.pf (fs' := [.ref (E.2.2.1 + (p + 1)), .int (iI (0)), .null, .int 0, .null]) dX0_init_15 fp_X0_17 (by omega) rfl rfl (Nat.le_of_ble_eq_true rfl) rfl ?_
  refine T.aload_n dX0_init_18 rfl ?_
  refine T.bipush dX0_init_19 ?_
  refine T.zn (n := 12) (t0 := 6) (C := RX4) dX0_init_21 (wA_t 37 (by decide +kernel) rfl) (by decide) rfl rfl (by decide) (by omega) ?_
  refine T.pF (fs' := [.ref (E.2.2.1 + (p + 1)), .int (iI (0)), .ref (E.2.2.1 + (p + 2)), .int 0, .null]) dX0_init_24 fp_X0_23 rfl (by omega) rfl rfl (Nat.le_of_ble_eq_true rfl) rfl ?_
  refine T.aload_n dX0_init_27 rfl ?_
  refine T.iconst dX0_init_28 ?_
  refine T.pf (fs' := [.ref (E.2.2.1 + (p + 1)), .int (iI (0)), .ref (E.2.2.1 + (p + 2)), .int (iI (0)), .null]) dX0_init_29 fp_X0_27 (by omega) rfl rfl (Nat.le_of_ble_eq_true rfl) rfl ?_
  refine T.aload_n dX0_init_32 rfl ?_
  refine T.iconst dX0_init_33 ?_
  refine T.zn (n := 2) (t0 := 5) (C := RX3) dX0_init_34 (wA_t 39 (by decide +kernel) rfl) (by decide) rfl rfl (by decide) (by omega) ?_
  refine T.pF (fs' := [.ref (E.2.2.1 + (p + 1)), .int (iI (0)), .ref (E.2.2.1 + (p + 2)), .int (iI (0)), .ref (E.2.2.1 + (p + 3))]) dX0_init_37 fp_X0_32 rfl (by omega) rfl rfl (Nat.le_of_ble_eq_true rfl) rfl ?_
  refine T.iconst dX0_init_40 ?_
  refine T.istore_n (ls' := [some (.ref (E.2.2.1 + p)), some (.int (iI (0)))]) dX0_init_41 rfl ?_
  rw [vu_id (show (va_up (va_up (va_up G (E.2.2.1 + (p + 1)) (nl E 4 8)) (E.2.2.1 + (p + 2)) (nl E 6 12)) (E.2.2.1 + (p + 3)) (nl E 5 2)) (E.2.2.1 + p) = _ from by rw [va_up_ne _ _ (by omega), va_up_ne _ _ (by omega), va_up_ne _ _ (by omega)]; exact h1)]
  rw [vu_cm G (nl E 4 8) (nl E 6 12) (by omega), vu_cm (va_up G (E.2.2.1 + (p + 2)) (nl E 6 12)) (nl E 4 8) (nl E 5 2) (by omega), rk_0 E 4 8 (fun x => E.2.2.1 + (p + 4 + 2 * x))]
  refine i_Bk_d E (va_up (va_up G (E.2.2.1 + (p + 2)) (nl E 6 12)) (E.2.2.1 + (p + 3)) (nl E 5 2)) p (s + 22) (by rw [va_up_ne _ _ (by omega), va_up_ne _ _ (by omega)]; exact h1) (by rw [va_up_ne _ _ (by omega), va_up_ne _ _ (by omega)]; exact h2) (fun i hi => ((h5 i hi).up (by omega)).up (by omega)) _ ?_ _ 0 rfl (Nat.zero_le _)
  refine T.iconst dX0_init_67 ?_
  refine T.istore_n (ls' := [some (.ref (E.2.2.1 + p)), some (.int (iI 0))]) dX0_init_68 rfl ?_
  rw [vu_cm G (nl E 6 12) (nl E 5 2) (by omega), rk_0 E 6 12 (fun x => E.2.2.1 + (p + 20 + x))]
  refine i_Bk_p E (va_up G (E.2.2.1 + (p + 3)) (nl E 5 2)) p (s + 22 + 9 * 8) (by rw [va_up_ne _ _ (by omega)]; exact h1) (by rw [va_up_ne _ _ (by omega)]; exact h3) (fun i hi => (h6 i hi).up (by omega)) _ ?_ _ 0 rfl (Nat.zero_le _)
  refine T.iconst dX0_init_94 ?_
  refine T.istore_n (ls' := [some (.ref (E.2.2.1 + p)), some (.int (iI 0))]) dX0_init_95 rfl ?_
  rw [rk_0 E 5 2 h4.choose]
  refine i_Bk_l E G p (s + 22 + 9 * 8 + 4 * 12) h4.choose h4.choose_spec.2 h1 h4.choose_spec.1 h7 _ ?_ _ 0 rfl (Nat.zero_le _)
  exact T.vret dX0_init_120 ⟨rfl, by rw [show s + 22 + 9 * 8 + 4 * 12 + 13 * 2 = s + 168 from by omega]⟩
set_option maxHeartbeats 4000000 in
set_option maxRecDepth 100000 in
theorem i_Co (E : Ev) (G : Nat → va_E) (p s : Nat) (h : okCo E G p) : CT E 3 mX1_init [.ref (E.2.2.1 + p)] (p + 1, s, va_up G (E.2.2.1 + p) (.inr (1, [.null, .null, .int 0, .int 0, .null, .null, .null, .null, .null, .null, .null, .null, .null, .long 0]))) none (p + 48, s + 258, G) := by
  refine CT.go okX1_init (Nat.le_of_ble_eq_true rfl) ?_
  show T E 3 mX1_init 0 [some (.ref (E.2.2.1 + p))] [] (p + 1, s, va_up G (E.2.2.1 + p) (.inr (1, [.null, .null, .int 0, .int 0, .null, .null, .null, .null, .null, .null, .null, .null, .null, .long 0]))) _
  obtain ⟨h1, h2, h3, h4, h5, h6, h7, h8, h9, h10, h11, h12⟩ := h
  refine T.aload_n dX1_init_0 rfl ?_
  refine T.objI dX1_init_1 lo_X1_3 ow_i ow_c (by omega) (Nat.le_of_ble_eq_true rfl) ?_
  refine T.aload_n dX1_init_4 rfl ?_
  refine T.mkI (dc := 2) dX1_init_5 dX1_init_8 dX1_init_9 no_X1_9 lk_X1_11 (i_Bk E _ (p + 1) _ (by refine okBk.up ?_ (by omega); exact h2)) (by decide) (Nat.le_of_ble_eq_true rfl) ?_
  refine T.pF (fs' := [.ref (E.2.2.1 + (p + 1)), .null, .int 0, .int 0, .null, .null, .null, .null, .null, .null, .null, .null, .null, .long 0]) dX1_init_12 fp_X1_12 rfl (by omega) rfl rfl (Nat.le_of_ble_eq_true rfl) rfl ?_
  refine T.aload_n dX1_init_15 rfl ?_
  refine T.mkN (dc := 1) dX1_init_16 dX1_init_19 dX1_init_20 no_X1_18 lk_X1_20 (i_Lw E _ (p + 37) _ (by refine okLw.up ?_ (by omega); exact h3)) (by decide) (Nat.le_of_ble_eq_true rfl) ?_
  refine T.pF (fs' := [.ref (E.2.2.1 + (p + 1)), .ref (E.2.2.1 + (p + 37)), .int 0, .int 0, .null, .null, .null, .null, .null, .null, .null, .null, .null, .long 0]) dX1_init_23 fp_X1_21 rfl (by omega) rfl rfl (Nat.le_of_ble_eq_true rfl) rfl ?_
  refine T.aload_n dX1_init_26 rfl ?_
  refine T.iconst dX1_init_27 ?_
  refine T.pf (fs' := [.ref (E.2.2.1 + (p + 1)), .ref (E.2.2.1 + (p + 37)), .int (iI (0)), .int 0, .null, .null, .null, .null, .null, .null, .null, .null, .null, .long 0]) dX1_init_28 fp_X1_25 (by omega) rfl rfl (Nat.le_of_ble_eq_true rfl) rfl ?_
  refine T.aload_n dX1_init_31 rfl ?_
  refine T.iconst dX1_init_32 ?_
  refine T.pf (fs' := [.ref (E.2.2.1 + (p + 1)), .ref (E.2.2.1 + (p + 37)), .int (iI (0)), .int (iI (-1)), .null, .null, .null, .null, .null, .null, .null, .null, .null, .long 0]) dX1_init_33 fp_X1_29 (by omega) rfl rfl (Nat.le_of_ble_eq_true rfl) rfl ?_
  refine T.aload_n dX1_init_36 rfl ?_
  refine T.bipush dX1_init_37 ?_
  refine T.zl (n := 8) dX1_init_39 rfl (by decide) (by rw [va_up_ne _ _ (by omega)]; exact h4) ?_
  refine T.pF (fs' := [.ref (E.2.2.1 + (p + 1)), .ref (E.2.2.1 + (p + 37)), .int (iI (0)), .int (iI (-1)), .ref (E.2.2.1 + (p + 39)), .null, .null, .null, .null, .null, .null, .null, .null, .long 0]) dX1_init_41 fp_X1_32 rfl (by omega) rfl rfl (Nat.le_of_ble_eq_true rfl) rfl ?_
  refine T.aload_n dX1_init_44 rfl ?_
  refine T.bipush dX1_init_45 ?_
  refine T.zl (n := 8) dX1_init_47 rfl (by decide) (by rw [va_up_ne _ _ (by omega)]; exact h5) ?_
  refine T.pF (fs' := [.ref (E.2.2.1 + (p + 1)), .ref (E.2.2.1 + (p + 37)), .int (iI (0)), .int (iI (-1)), .ref (E.2.2.1 + (p + 39)), .ref (E.2.2.1 + (p + 40)), .null, .null, .null, .null, .null, .null, .null, .long 0]) dX1_init_49 fp_X1_36 rfl (by omega) rfl rfl (Nat.le_of_ble_eq_true rfl) rfl ?_
  refine T.aload_n dX1_init_52 rfl ?_
  refine T.bipush dX1_init_53 ?_
  refine T.zi (n := 8) dX1_init_55 rfl (by decide) (by rw [va_up_ne _ _ (by omega)]; exact h6) ?_
  refine T.pF (fs' := [.ref (E.2.2.1 + (p + 1)), .ref (E.2.2.1 + (p + 37)), .int (iI (0)), .int (iI (-1)), .ref (E.2.2.1 + (p + 39)), .ref (E.2.2.1 + (p + 40)), .ref (E.2.2.1 + (p + 41)), .null, .null, .null, .null, .null, .null, .long 0]) dX1_init_57 fp_X1_39 rfl (by omega) rfl rfl (Nat.le_of_ble_eq_true rfl) rfl ?_
  refine T.aload_n dX1_init_60 rfl ?_
  refine T.bipush dX1_init_61 ?_
  refine T.zi (n := 8) dX1_init_63 rfl (by decide) (by rw [va_up_ne _ _ (by omega)]; exact h7) ?_
  refine T.pF (fs' := [.ref (E.2.2.1 + (p + 1)), .ref (E.2.2.1 + (p + 37)), .int (iI (0)), .int (iI (-1)), .ref (E.2.2.1 + (p + 39)), .ref (E.2.2.1 + (p + 40)), .ref (E.2.2.1 + (p + 41)), .ref (E.2.2.1 + (p + 42)), .null, .null, .null, .null, .null, .long 0]) dX1_init_65 fp_X1_43 rfl (by omega) rfl rfl (Nat.le_of_ble_eq_true rfl) rfl ?_
  refine T.aload_n dX1_init_68 rfl ?_
  refine T.bipush dX1_init_69 ?_
  refine T.zi (n := 8) dX1_init_71 rfl (by decide) (by rw [va_up_ne _ _ (by omega)]; exact h8) ?_
  refine T.pF (fs' := [.ref (E.2.2.1 + (p + 1)), .ref (E.2.2.1 + (p + 37)), .int (iI (0)), .int (iI (-1)), .ref (E.2.2.1 + (p + 39)), .ref (E.2.2.1 + (p + 40)), .ref (E.2.2.1 + (p + 41)), .ref (E.2.2.1 + (p + 42)), .ref (E.2.2.1 + (p + 43)), .null, .null, .null, .null, .long 0]) dX1_init_73 fp_X1_46 rfl (by omega) rfl rfl (Nat.le_of_ble_eq_true rfl) rfl ?_
  refine T.aload_n dX1_init_76 rfl ?_
  refine T.bipush dX1_init_77 ?_
  refine T.zz (n := 8) dX1_init_79 rfl (by decide) (by rw [va_up_ne _ _ (by omega)]; exact h9) ?_
  refine T.pF (fs' := [.ref (E.2.2.1 + (p + 1)), .ref (E.2.2.1 + (p + 37)), .int (iI (0)), .int (iI (-1)), .ref (E.2.2.1 + (p + 39)), .ref (E.2.2.1 + (p + 40)), .ref (E.2.2.1 + (p + 41)), .ref (E.2.2.1 + (p + 42)), .ref (E.2.2.1 + (p + 43)), .ref (E.2.2.1 + (p + 44)), .null, .null, .null, .long 0]) dX1_init_81 fp_X1_49 rfl (by omega) rfl rfl (Nat.le_of_ble_eq_true rfl) rfl ?_
  refine T.aload_n dX1_init_84 rfl ?_
  refine T.bipush dX1_init_85 ?_
  refine T.zi (n := 8) dX1_init_87 rfl (by decide) (by rw [va_up_ne _ _ (by omega)]; exact h10) ?_
  refine T.pF (fs' := [.ref (E.2.2.1 + (p + 1)), .ref (E.2.2.1 + (p + 37)), .int (iI (0)), .int (iI (-1)), .ref (E.2.2.1 + (p + 39)), .ref (E.2.2.1 + (p + 40)), .ref (E.2.2.1 + (p + 41)), .ref (E.2.2.1 + (p + 42)), .ref (E.2.2.1 + (p + 43)), .ref (E.2.2.1 + (p + 44)), .ref (E.2.2.1 + (p + 45)), .null, .null, .long 0]) dX1_init_89 fp_X1_53 rfl (by omega) rfl rfl (Nat.le_of_ble_eq_true rfl) rfl ?_
  refine T.aload_n dX1_init_92 rfl ?_
  refine T.bipush dX1_init_93 ?_
  refine T.zl (n := 8) dX1_init_95 rfl (by decide) (by rw [va_up_ne _ _ (by omega)]; exact h11) ?_
  refine T.pF (fs' := [.ref (E.2.2.1 + (p + 1)), .ref (E.2.2.1 + (p + 37)), .int (iI (0)), .int (iI (-1)), .ref (E.2.2.1 + (p + 39)), .ref (E.2.2.1 + (p + 40)), .ref (E.2.2.1 + (p + 41)), .ref (E.2.2.1 + (p + 42)), .ref (E.2.2.1 + (p + 43)), .ref (E.2.2.1 + (p + 44)), .ref (E.2.2.1 + (p + 45)), .ref (E.2.2.1 + (p + 46)), .null, .long 0]) dX1_init_97 fp_X1_56 rfl (by omega) rfl rfl (Nat.le_of_ble_eq_true rfl) rfl ?_
  refine T.aload_n dX1_init_100 rfl ?_
  refine T.bipush dX1_init_101 ?_
  refine T.zl (n := 8) dX1_init_103 rfl (by decide) (by rw [va_up_ne _ _ (by omega)]; exact h12) ?_
  refine T.pF (fs' := [.ref (E.2.2.1 + (p + 1)), .ref (E.2.2.1 + (p + 37)), .int (iI (0)), .int (iI (-1)), .ref (E.2.2.1 + (p + 39)), .ref (E.2.2.1 + (p + 40)), .ref (E.2.2.1 + (p + 41)), .ref (E.2.2.1 + (p + 42)), .ref (E.2.2.1 + (p + 43)), .ref (E.2.2.1 + (p + 44)), .ref (E.2.2.1 + (p + 45)), .ref (E.2.2.1 + (p + 46)), .ref (E.2.2.1 + (p + 47)), .long 0]) dX1_init_105 fp_X1_59 rfl (by omega) rfl rfl (Nat.le_of_ble_eq_true rfl) rfl ?_
  refine T.aload_n dX1_init_108 rfl ?_
  refine T.lconst0 dX1_init_109 ?_
  refine T.pf (fs' := [.ref (E.2.2.1 + (p + 1)), .ref (E.2.2.1 + (p + 37)), .int (iI (0)), .int (iI (-1)), .ref (E.2.2.1 + (p + 39)), .ref (E.2.2.1 + (p + 40)), .ref (E.2.2.1 + (p + 41)), .ref (E.2.2.1 + (p + 42)), .ref (E.2.2.1 + (p + 43)), .ref (E.2.2.1 + (p + 44)), .ref (E.2.2.1 + (p + 45)), .ref (E.2.2.1 + (p + 46)), .ref (E.2.2.1 + (p + 47)), .long (lI 0)]) dX1_init_110 fp_X1_62 (by omega) rfl rfl (Nat.le_of_ble_eq_true rfl) rfl ?_
  exact T.vret dX1_init_113 ⟨rfl, Prod.ext rfl (Prod.ext rfl (vu_id h1))⟩
set_option maxHeartbeats 4000000 in
set_option maxRecDepth 100000 in
theorem i_Ws_c (E : Ev) (K : Nat → va_E) (p s : Nat) (hthis : K (E.2.2.1 + p) = .inr (7, [.ref (E.2.2.1 + (p + 1)), .long (lI 0), .int (iI 0), .ref (E.2.2.1 + (p + 2)), .ref (E.2.2.1 + (p + 3)), .int (iI 0), .int (iI 0)])) (hx : K (E.2.2.1 + (p + 3)) = refs E 3 4 (fun x => E.2.2.1 + (p + 4 + 48 * x))) (hel : ∀ i, i < 4 → okCo E K (p + 4 + 48 * i)) (Q : Option Value → Hp → Prop) (hK : T E 4 mX7_init 72 [some (.ref (E.2.2.1 + p)), none] [] (p + 4 + 48 * 4, s + 272 * 4, K) Q) : ∀ (k i : Nat), 4 - i = k → i ≤ 4 → T E 4 mX7_init 48 [some (.ref (E.2.2.1 + p)), some (.int (iI (i : Int)))] [] (p + 4 + 48 * i, s + 272 * i, va_up K (E.2.2.1 + (p + 3)) (rk E 3 4 (fun x => E.2.2.1 + (p + 4 + 48 * x)) i)) Q := by
  intro k
  induction k using Nat.strongRecOn with
  | ind k ih =>
    intro i hk hi
    refine T.iload_n dX7_init_48 rfl ?_
    refine T.iconst dX7_init_49 ?_
    refine T.icmp_gt 72 dX7_init_50 (by unfold rg; omega) (by unfold rg; omega) (fun c1 => ?_) (fun c1 => ?_)
    · obtain rfl : i = 4 := by omega
      refine T.fgt (ls' := [some (.ref (E.2.2.1 + p)), none]) (by simp [lsw]) ?_
      exact T.full hx hK
    · refine T.aload_n dX7_init_53 rfl ?_
      refine T.gG dX7_init_54 fo_X7_28 (by omega) ((va_up_ne _ _ (by omega)).trans hthis) (by rfl) ?_
      refine T.iload_n dX7_init_57 rfl ?_
      refine T.mkN (dc := 3) dX7_init_58 dX7_init_61 dX7_init_62 no_X7_26 lk_X7_39 (i_Co E _ (p + 4 + 48 * i) _ ((hel i (by omega)).up (by omega))) (by decide) (Nat.le_of_ble_eq_true rfl) ?_
      refine T.aset dX7_init_65 (by omega) rfl rfl (by omega) (by omega) ((hel i (by omega)).1) rfl rfl (by omega) (by decide) ?_
      refine T.iinc (ls' := [some (.ref (E.2.2.1 + p)), some (.int (iI ((i : Int) + 1)))]) dX7_init_66 rfl rfl ?_
      refine T.goto 48 dX7_init_69 ?_
      have h0 := ih (4 - (i + 1)) (by omega) (i + 1) rfl (by omega)
      rw [show p + 4 + 48 * (i + 1) = p + 4 + 48 * i + 48 from by omega, show s + 272 * (i + 1) = s + 272 * i + 14 + 258 from by omega] at h0
      exact h0
set_option maxHeartbeats 4000000 in
set_option maxRecDepth 100000 in
theorem i_Ws (E : Ev) (G : Nat → va_E) (p s : Nat) (h : okWs E G p) : CT E 4 mX7_init [.ref (E.2.2.1 + p)] (p + 1, s, va_up G (E.2.2.1 + p) (.inr (7, [.null, .long 0, .int 0, .null, .null, .int 0, .int 0]))) none (p + 196, s + 1098, G) := by
  refine CT.go okX7_init (Nat.le_of_ble_eq_true rfl) ?_
  show T E 4 mX7_init 0 [some (.ref (E.2.2.1 + p)), none] [] (p + 1, s, va_up G (E.2.2.1 + p) (.inr (7, [.null, .long 0, .int 0, .null, .null, .int 0, .int 0]))) _
  obtain ⟨h1, h2, h3, h4, h5⟩ := h
  refine T.aload_n dX7_init_0 rfl ?_
  refine T.objI dX7_init_1 lo_X7_3 ow_i ow_c (by omega) (Nat.le_of_ble_eq_true rfl) ?_
  refine T.aload_n dX7_init_4 rfl ?_
  refine T.iconst dX7_init_5 ?_
  refine T.zi (n := 3) dX7_init_6 rfl (by decide) (by rw [va_up_ne _ _ (by omega)]; exact h2) ?_
  refine T.pF (fs' := [.ref (E.2.2.1 + (p + 1)), .long 0, .int 0, .null, .null, .int 0, .int 0]) dX7_init_8 fp_X7_9 rfl (by omega) rfl rfl (Nat.le_of_ble_eq_true rfl) rfl ?_
  refine T.aload_n dX7_init_11 rfl ?_
  refine T.lconst0 dX7_init_12 ?_
  refine T.pf (fs' := [.ref (E.2.2.1 + (p + 1)), .long (lI 0), .int 0, .null, .null, .int 0, .int 0]) dX7_init_13 fp_X7_15 (by omega) rfl rfl (Nat.le_of_ble_eq_true rfl) rfl ?_
  refine T.aload_n dX7_init_16 rfl ?_
  refine T.iconst dX7_init_17 ?_
  refine T.pf (fs' := [.ref (E.2.2.1 + (p + 1)), .long (lI 0), .int (iI (0)), .null, .null, .int 0, .int 0]) dX7_init_18 fp_X7_19 (by omega) rfl rfl (Nat.le_of_ble_eq_true rfl) rfl ?_
  refine T.aload_n dX7_init_21 rfl ?_
  refine T.iconst dX7_init_22 ?_
  refine T.zi (n := 3) dX7_init_23 rfl (by decide) (by rw [va_up_ne _ _ (by omega)]; exact h3) ?_
  refine T.pF (fs' := [.ref (E.2.2.1 + (p + 1)), .long (lI 0), .int (iI (0)), .ref (E.2.2.1 + (p + 2)), .null, .int 0, .int 0]) dX7_init_25 fp_X7_23 rfl (by omega) rfl rfl (Nat.le_of_ble_eq_true rfl) rfl ?_
  refine T.aload_n dX7_init_28 rfl ?_
  refine T.iconst dX7_init_29 ?_
  refine T.zn (n := 4) (t0 := 3) (C := RX1) dX7_init_30 (wA_t 210 (by decide +kernel) rfl) (by decide) rfl rfl (by decide) (by omega) ?_
  refine T.pF (fs' := [.ref (E.2.2.1 + (p + 1)), .long (lI 0), .int (iI (0)), .ref (E.2.2.1 + (p + 2)), .ref (E.2.2.1 + (p + 3)), .int 0, .int 0]) dX7_init_33 fp_X7_28 rfl (by omega) rfl rfl (Nat.le_of_ble_eq_true rfl) rfl ?_
  refine T.aload_n dX7_init_36 rfl ?_
  refine T.iconst dX7_init_37 ?_
  refine T.pf (fs' := [.ref (E.2.2.1 + (p + 1)), .long (lI 0), .int (iI (0)), .ref (E.2.2.1 + (p + 2)), .ref (E.2.2.1 + (p + 3)), .int (iI (0)), .int 0]) dX7_init_38 fp_X7_32 (by omega) rfl rfl (Nat.le_of_ble_eq_true rfl) rfl ?_
  refine T.aload_n dX7_init_41 rfl ?_
  refine T.iconst dX7_init_42 ?_
  refine T.pf (fs' := [.ref (E.2.2.1 + (p + 1)), .long (lI 0), .int (iI (0)), .ref (E.2.2.1 + (p + 2)), .ref (E.2.2.1 + (p + 3)), .int (iI (0)), .int (iI (0))]) dX7_init_43 fp_X7_36 (by omega) rfl rfl (Nat.le_of_ble_eq_true rfl) rfl ?_
  refine T.iconst dX7_init_46 ?_
  refine T.istore_n (ls' := [some (.ref (E.2.2.1 + p)), some (.int (iI (0)))]) dX7_init_47 rfl ?_
  rw [vu_id (show (va_up G (E.2.2.1 + (p + 3)) (nl E 3 4)) (E.2.2.1 + p) = _ from by rw [va_up_ne _ _ (by omega)]; exact h1), rk_0 E 3 4 (fun x => E.2.2.1 + (p + 4 + 48 * x))]
  refine i_Ws_c E G p (s + 10) h1 h4 h5 _ ?_ _ 0 rfl (Nat.zero_le _)
  exact T.vret dX7_init_72 ⟨rfl, by rw [show s + 10 + 272 * 4 = s + 1098 from by omega]⟩
set_option maxHeartbeats 4000000 in
set_option maxRecDepth 100000 in
theorem i_Pd_s (E : Ev) (K : Nat → va_E) (p s : Nat) (hthis : K (E.2.2.1 + p) = .inr (8, [.ref (E.2.2.1 + (p + 1)), .ref (E.2.2.1 + (p + 37)), .int (iI 0), .ref (E.2.2.1 + (p + 73)), .ref (E.2.2.1 + (p + 121)), .ref (E.2.2.1 + (p + 169)), .ref (E.2.2.1 + (p + 365)), .ref (E.2.2.1 + (p + 367))])) (hx : K (E.2.2.1 + (p + 367)) = refs E 7 4 (fun x => E.2.2.1 + (p + 368 + 2 * x))) (hel : ∀ i, i < 4 → okSh E K (p + 368 + 2 * i)) (Q : Option Value → Hp → Prop) (hK : T E 5 mX8_init 109 [some (.ref (E.2.2.1 + p)), none] [] (p + 368 + 2 * 4, s + 28 * 4, K) Q) : ∀ (k i : Nat), 4 - i = k → i ≤ 4 → T E 5 mX8_init 85 [some (.ref (E.2.2.1 + p)), some (.int (iI (i : Int)))] [] (p + 368 + 2 * i, s + 28 * i, va_up K (E.2.2.1 + (p + 367)) (rk E 7 4 (fun x => E.2.2.1 + (p + 368 + 2 * x)) i)) Q := by
  intro k
  induction k using Nat.strongRecOn with
  | ind k ih =>
    intro i hk hi
    refine T.iload_n dX8_init_85 rfl ?_
    refine T.iconst dX8_init_86 ?_
    refine T.icmp_ge 109 dX8_init_87 (by unfold rg; omega) (by unfold rg; omega) (fun c1 => ?_) (fun c1 => ?_)
    · obtain rfl : i = 4 := by omega
      refine T.fgt (ls' := [some (.ref (E.2.2.1 + p)), none]) (by simp [lsw]) ?_
      exact T.full hx hK
    · refine T.aload_n dX8_init_90 rfl ?_
      refine T.gG dX8_init_91 fo_X8_49 (by omega) ((va_up_ne _ _ (by omega)).trans hthis) (by rfl) ?_
      refine T.iload_n dX8_init_94 rfl ?_
      refine T.mkN (dc := 1) dX8_init_95 dX8_init_98 dX8_init_99 no_X8_47 lk_X8_53 (i_Sh E _ (p + 368 + 2 * i) _ ((hel i (by omega)).up (by omega))) (by decide) (Nat.le_of_ble_eq_true rfl) ?_
      refine T.aset dX8_init_102 (by omega) rfl rfl (by omega) (by omega) ((hel i (by omega)).1) rfl rfl (by omega) (by decide) ?_
      refine T.iinc (ls' := [some (.ref (E.2.2.1 + p)), some (.int (iI ((i : Int) + 1)))]) dX8_init_103 rfl rfl ?_
      refine T.goto 85 dX8_init_106 ?_
      have h0 := ih (4 - (i + 1)) (by omega) (i + 1) rfl (by omega)
      rw [show p + 368 + 2 * (i + 1) = p + 368 + 2 * i + 2 from by omega, show s + 28 * (i + 1) = s + 28 * i + 4 + 24 from by omega] at h0
      exact h0
set_option maxHeartbeats 4000000 in
set_option maxRecDepth 100000 in
theorem i_Pd (E : Ev) (G : Nat → va_E) (p s : Nat) (h : okPd E G p) : CT E 5 mX8_init [.ref (E.2.2.1 + p)] (p + 1, s, va_up G (E.2.2.1 + p) (.inr (8, [.null, .null, .int 0, .null, .null, .null, .null, .null]))) none (p + 376, s + 2153, G) := by
  refine CT.go okX8_init (Nat.le_of_ble_eq_true rfl) ?_
  show T E 5 mX8_init 0 [some (.ref (E.2.2.1 + p)), none] [] (p + 1, s, va_up G (E.2.2.1 + p) (.inr (8, [.null, .null, .int 0, .null, .null, .null, .null, .null]))) _
  obtain ⟨h1, h2, h3, h4, h5, h6, h7, h8, h9⟩ := h
  refine T.aload_n dX8_init_0 rfl ?_
  refine T.objI dX8_init_1 lo_X8_1 ow_i ow_c (by omega) (Nat.le_of_ble_eq_true rfl) ?_
  refine T.aload_n dX8_init_4 rfl ?_
  refine T.mkI (dc := 2) dX8_init_5 dX8_init_8 dX8_init_9 no_X8_7 lk_X8_9 (i_Bk E _ (p + 1) _ (by refine okBk.up ?_ (by omega); exact h2)) (by decide) (Nat.le_of_ble_eq_true rfl) ?_
  refine T.pF (fs' := [.ref (E.2.2.1 + (p + 1)), .null, .int 0, .null, .null, .null, .null, .null]) dX8_init_12 fp_X8_10 rfl (by omega) rfl rfl (Nat.le_of_ble_eq_true rfl) rfl ?_
  refine T.aload_n dX8_init_15 rfl ?_
  refine T.mkI (dc := 2) dX8_init_16 dX8_init_19 dX8_init_20 no_X8_7 lk_X8_9 (i_Bk E _ (p + 37) _ (by refine okBk.up ?_ (by omega); exact h3)) (by decide) (Nat.le_of_ble_eq_true rfl) ?_
  refine T.pF (fs' := [.ref (E.2.2.1 + (p + 1)), .ref (E.2.2.1 + (p + 37)), .int 0, .null, .null, .null, .null, .null]) dX8_init_23 fp_X8_16 rfl (by omega) rfl rfl (Nat.le_of_ble_eq_true rfl) rfl ?_
  refine T.aload_n dX8_init_26 rfl ?_
  refine T.iconst dX8_init_27 ?_
  refine T.pf (fs' := [.ref (E.2.2.1 + (p + 1)), .ref (E.2.2.1 + (p + 37)), .int (iI (0)), .null, .null, .null, .null, .null]) dX8_init_28 fp_X8_19 (by omega) rfl rfl (Nat.le_of_ble_eq_true rfl) rfl ?_
  refine T.aload_n dX8_init_31 rfl ?_
  refine T.mkN (dc := 3) dX8_init_32 dX8_init_35 dX8_init_36 no_X8_23 lk_X8_25 (i_Co E _ (p + 73) _ (by refine okCo.up ?_ (by omega); exact h4)) (by decide) (Nat.le_of_ble_eq_true rfl) ?_
  refine T.pF (fs' := [.ref (E.2.2.1 + (p + 1)), .ref (E.2.2.1 + (p + 37)), .int (iI (0)), .ref (E.2.2.1 + (p + 73)), .null, .null, .null, .null]) dX8_init_39 fp_X8_26 rfl (by omega) rfl rfl (Nat.le_of_ble_eq_true rfl) rfl ?_
  refine T.aload_n dX8_init_42 rfl ?_
  refine T.mkN (dc := 3) dX8_init_43 dX8_init_46 dX8_init_47 no_X8_23 lk_X8_25 (i_Co E _ (p + 121) _ (by refine okCo.up ?_ (by omega); exact h5)) (by decide) (Nat.le_of_ble_eq_true rfl) ?_
  refine T.pF (fs' := [.ref (E.2.2.1 + (p + 1)), .ref (E.2.2.1 + (p + 37)), .int (iI (0)), .ref (E.2.2.1 + (p + 73)), .ref (E.2.2.1 + (p + 121)), .null, .null, .null]) dX8_init_50 fp_X8_30 rfl (by omega) rfl rfl (Nat.le_of_ble_eq_true rfl) rfl ?_
  refine T.aload_n dX8_init_53 rfl ?_
  refine T.mkI (dc := 4) dX8_init_54 dX8_init_57 dX8_init_58 no_X8_33 lk_X8_35 (i_Ws E _ (p + 169) _ (by refine okWs.up ?_ (by omega); exact h6)) (by decide) (Nat.le_of_ble_eq_true rfl) ?_
  refine T.pF (fs' := [.ref (E.2.2.1 + (p + 1)), .ref (E.2.2.1 + (p + 37)), .int (iI (0)), .ref (E.2.2.1 + (p + 73)), .ref (E.2.2.1 + (p + 121)), .ref (E.2.2.1 + (p + 169)), .null, .null]) dX8_init_61 fp_X8_36 rfl (by omega) rfl rfl (Nat.le_of_ble_eq_true rfl) rfl ?_
  refine T.aload_n dX8_init_64 rfl ?_
  refine T.mkN (dc := 1) dX8_init_65 dX8_init_68 dX8_init_69 no_X8_40 lk_X8_42 (i_Tp E _ (p + 365) _ (by refine okTp.up ?_ (by omega); exact h7)) (by decide) (Nat.le_of_ble_eq_true rfl) ?_
  refine T.pF (fs' := [.ref (E.2.2.1 + (p + 1)), .ref (E.2.2.1 + (p + 37)), .int (iI (0)), .ref (E.2.2.1 + (p + 73)), .ref (E.2.2.1 + (p + 121)), .ref (E.2.2.1 + (p + 169)), .ref (E.2.2.1 + (p + 365)), .null]) dX8_init_72 fp_X8_43 rfl (by omega) rfl rfl (Nat.le_of_ble_eq_true rfl) rfl ?_
  refine T.aload_n dX8_init_75 rfl ?_
  refine T.iconst dX8_init_76 ?_
  refine T.zn (n := 4) (t0 := 7) (C := RX5) dX8_init_77 (wA_t 253 (by decide +kernel) rfl) (by decide) rfl rfl (by decide) (by omega) ?_
  refine T.pF (fs' := [.ref (E.2.2.1 + (p + 1)), .ref (E.2.2.1 + (p + 37)), .int (iI (0)), .ref (E.2.2.1 + (p + 73)), .ref (E.2.2.1 + (p + 121)), .ref (E.2.2.1 + (p + 169)), .ref (E.2.2.1 + (p + 365)), .ref (E.2.2.1 + (p + 367))]) dX8_init_80 fp_X8_49 rfl (by omega) rfl rfl (Nat.le_of_ble_eq_true rfl) rfl ?_
  refine T.iconst dX8_init_83 ?_
  refine T.istore_n (ls' := [some (.ref (E.2.2.1 + p)), some (.int (iI (0)))]) dX8_init_84 rfl ?_
  rw [vu_id (show (va_up G (E.2.2.1 + (p + 367)) (nl E 7 4)) (E.2.2.1 + p) = _ from by rw [va_up_ne _ _ (by omega)]; exact h1), rk_0 E 7 4 (fun x => E.2.2.1 + (p + 368 + 2 * x))]
  refine i_Pd_s E G p (s + 2041) h1 h8 h9 _ ?_ _ 0 rfl (Nat.zero_le _)
  exact T.vret dX8_init_109 ⟨rfl, by rw [show s + 2041 + 28 * 4 = s + 2153 from by omega]⟩
