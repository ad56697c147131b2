-- ===== System.arraycopy =====
def LKC (own : String) (idx : Nat) : Prop := Cond.methodLink own idx arraycopyName ∈ wA ∧ Cond.native arraycopyName ∈ wA ∧ Cond.static arraycopyName ∈ wA ∧ Cond.initialized "java/lang/System" ∈ wA
section COPY
variable {E : Ev} {d : Nat} {M : MI} {pc : Nat} {ls : List (Option Value)} {st : List Value} {h : Hp} {Q : Option Value → Hp → Prop} {a a0 idx : Nat}
theorem iI_nneg {x : Int} {i : Nat} (h : x = i) (hi : i < 2147483648) : ¬ iI x < 0 := by
  rw [show (0 : Int32) = iI 0 from rfl, iI_lt (by unfold rg; omega) (by unfold rg; omega)]; omega
theorem T.copyi {n0 n1 n sp dp : Nat} {xs xd xn : Int} {f g : Nat → Int32} (hd : decode M.2.1 pc = .ok (.invokestatic idx, 3)) (hk : LKC M.1.cls idx) (ha : inH E h a) (he : h.2.2 a = .inl (E.2.2.2.1 0, n1, .inl g)) (ha0 : inH E h a0) (he0 : h.2.2 a0 = .inl (E.2.2.2.1 0, n0, .inl f)) (hs : xs = sp) (hdp : xd = dp) (hn : xn = n) (h4 : sp + n ≤ n0) (h5 : dp + n ≤ n1) (hn0 : n0 < 1000000) (hn1 : n1 < 1000000) (hdd : 1 ≤ d) (hrm : (st.map fun v => v.category).sum ≤ 8) (kt : T E d M (pc + 3) ls st (hst h a (.inl (E.2.2.2.1 0, n1, .inl (va_cpy f g sp dp n)))) Q) : T E d M pc ls (.int (iI xn) :: .int (iI xd) :: .ref a :: .int (iI xs) :: .ref a0 :: st) h Q := by
  refine T.ph (h1 := hst h a (.inl (E.2.2.2.1 0, n1, .inl (va_cpy f g sp dp n)))) ⟨Nat.le_refl _, Nat.le_refl _, ?_⟩ kt
  intro p e R s m args below meth c hC hf hl H lsA locs cells slots Q hP hS hL hcl hsl hz kk
  obtain ⟨hx, hb, hml, hown, hts, hrt, hlk, hnm, hK, hro, hB, hRS⟩ := hC
  obtain ⟨q0, hq⟩ := Pic.at (H := H) ha he
  obtain ⟨q1, hq1⟩ := Pic.at (H := H) ha0 he0
  obtain ⟨k1, k2, k3, k4⟩ := hk
  have c1 := iI_clamp hs (by omega)
  have c2 := iI_clamp hdp (by omega)
  have c3 := iI_clamp hn (by omega)
  simp only [Nat.sub_self, Nat.add_zero] at kk
  have hnw : nativeFrameWords "java/lang/System" "arraycopy" 5 + 11 ≤ 90 := by decide
  refine va_copyi hx hb (hml.trans hL.1.symm) hown (hts _ k1) (hts _ k2) (hts _ k3) (hts _ k4) hK.1 hP Pic.D hS q1 q0 0 0 (ty := .int) hq1 hq rfl rfl rfl (iI_nneg hs (by omega)) (iI_nneg hdp (by omega)) (iI_nneg hn (by omega)) (by rw [c1, c3]; exact h4) (by rw [c2, c3]; exact h5) (fun i _ => rfl) (by omega) (by omega) hd (fun H1 locs1 z1 z2 z3 => ?_)
  rw [c1, c2, c3] at z1
  exact kk H1 locs1 _ (Pic.set ha he hq z1) z3 hL
theorem T.copyl {n0 n1 n sp dp : Nat} {xs xd xn : Int} {f g : Nat → Int64} (hd : decode M.2.1 pc = .ok (.invokestatic idx, 3)) (hk : LKC M.1.cls idx) (ha : inH E h a) (he : h.2.2 a = .inl (E.2.2.2.1 1, n1, .inr (.inl g))) (ha0 : inH E h a0) (he0 : h.2.2 a0 = .inl (E.2.2.2.1 1, n0, .inr (.inl f))) (hs : xs = sp) (hdp : xd = dp) (hn : xn = n) (h4 : sp + n ≤ n0) (h5 : dp + n ≤ n1) (hn0 : n0 < 1000000) (hn1 : n1 < 1000000) (hdd : 1 ≤ d) (hrm : (st.map fun v => v.category).sum ≤ 8) (kt : T E d M (pc + 3) ls st (hst h a (.inl (E.2.2.2.1 1, n1, .inr (.inl (va_cpy f g sp dp n))))) Q) : T E d M pc ls (.int (iI xn) :: .int (iI xd) :: .ref a :: .int (iI xs) :: .ref a0 :: st) h Q := by
  refine T.ph (h1 := hst h a (.inl (E.2.2.2.1 1, n1, .inr (.inl (va_cpy f g sp dp n))))) ⟨Nat.le_refl _, Nat.le_refl _, ?_⟩ kt
  intro p e R s m args below meth c hC hf hl H lsA locs cells slots Q hP hS hL hcl hsl hz kk
  obtain ⟨hx, hb, hml, hown, hts, hrt, hlk, hnm, hK, hro, hB, hRS⟩ := hC
  obtain ⟨q0, hq⟩ := Pic.at (H := H) ha he
  obtain ⟨q1, hq1⟩ := Pic.at (H := H) ha0 he0
  obtain ⟨k1, k2, k3, k4⟩ := hk
  have c1 := iI_clamp hs (by omega)
  have c2 := iI_clamp hdp (by omega)
  have c3 := iI_clamp hn (by omega)
  simp only [Nat.sub_self, Nat.add_zero] at kk
  have hnw : nativeFrameWords "java/lang/System" "arraycopy" 5 + 11 ≤ 90 := by decide
  refine va_copyl hx hb (hml.trans hL.1.symm) hown (hts _ k1) (hts _ k2) (hts _ k3) (hts _ k4) hK.1 hP Pic.D hS q1 q0 1 1 (ty := .long) hq1 hq rfl rfl rfl (iI_nneg hs (by omega)) (iI_nneg hdp (by omega)) (iI_nneg hn (by omega)) (by rw [c1, c3]; exact h4) (by rw [c2, c3]; exact h5) (fun i _ => rfl) (by omega) (by omega) hd (fun H1 locs1 z1 z2 z3 => ?_)
  rw [c1, c2, c3] at z1
  exact kk H1 locs1 _ (Pic.set ha he hq z1) z3 hL
end COPY
