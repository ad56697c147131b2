-- ===== Math =====
section MATH
variable {E : Ev} {d : Nat} {M : MI} {pc idx : Nat} {ls : List (Option Value)} {st : List Value} {h : Hp} {Q : Option Value → Hp → Prop} {x y : Int}
theorem T.mmax (hd : decode M.2.1 pc = .ok (.invokestatic idx, 3)) (hk : Cond.methodLink M.1.cls idx Lib.Math.max.name ∈ wA) (hrx : rg x) (hry : rg y) (hdd : 1 ≤ d) (hrm : (st.map fun v => v.category).sum ≤ 8) (kt : T E d M (pc + 3) ls (.int (iI (max x y)) :: st) h Q) : T E d M pc ls (.int (iI y) :: .int (iI x) :: st) h Q := by
  refine T.pl ?_ kt
  intro p e R s m args below meth c hC hf hl H lsA locs cells slots Q hP hS hL hcl hsl hz kk
  obtain ⟨hx, hb, hml, hown, hts, hrt, hlk, hnm, hK, hro, hB, hRS⟩ := hC
  refine va_mmax hx hb (hml.trans hL.1.symm) hown (hts _ hk) (hts _ ms_mx) (hts _ mi_i) (hts _ mc_mx) (by omega) (by omega) hcl hsl hd ?_
  have : (if iI x < iI y then iI y else iI x) = iI (max x y) := by
    simp only [iI_lt hrx hry]; split <;> (congr 1; omega)
  rw [this]
  exact kk _ hL
theorem T.mmin (hd : decode M.2.1 pc = .ok (.invokestatic idx, 3)) (hk : Cond.methodLink M.1.cls idx Lib.Math.min.name ∈ wA) (hrx : rg x) (hry : rg y) (hdd : 1 ≤ d) (hrm : (st.map fun v => v.category).sum ≤ 8) (kt : T E d M (pc + 3) ls (.int (iI (min x y)) :: st) h Q) : T E d M pc ls (.int (iI y) :: .int (iI x) :: st) h Q := by
  refine T.pl ?_ kt
  intro p e R s m args below meth c hC hf hl H lsA locs cells slots Q hP hS hL hcl hsl hz kk
  obtain ⟨hx, hb, hml, hown, hts, hrt, hlk, hnm, hK, hro, hB, hRS⟩ := hC
  refine va_mmin hx hb (hml.trans hL.1.symm) hown (hts _ hk) (hts _ ms_mn) (hts _ mi_i) (hts _ mc_mn) (by omega) (by omega) hcl hsl hd ?_
  have a1 := kk _ hL
  have b1 := iI_lt hrx hry
  have b2 := iI_lt hry hrx
  have b3 := iI_le hrx hry
  have b4 := iI_le hry hrx
  first
    | (have : (if iI y < iI x then iI y else iI x) = iI (min x y) := by
        simp only [b2]; split <;> (congr 1; omega)
       rw [this]; exact a1)
    | (have : (if iI x ≤ iI y then iI x else iI y) = iI (min x y) := by
        simp only [b3]; split <;> (congr 1; omega)
       rw [this]; exact a1)
theorem T.lmax (hd : decode M.2.1 pc = .ok (.invokestatic idx, 3)) (hk : Cond.methodLink M.1.cls idx Lib.MathLoose.max_long.x ∈ wA) (hrx : rl x) (hry : rl y) (hdd : 1 ≤ d) (hrm : (st.map fun v => v.category).sum ≤ 8) (kt : T E d M (pc + 3) ls (.long (lI (max x y)) :: st) h Q) : T E d M pc ls (.long (lI y) :: .long (lI x) :: st) h Q := by
  refine T.pl ?_ kt
  intro p e R s m args below meth c hC hf hl H lsA locs cells slots Q hP hS hL hcl hsl hz kk
  obtain ⟨hx, hb, hml, hown, hts, hrt, hlk, hnm, hK, hro, hB, hRS⟩ := hC
  refine va_mmax_long hx hb (hml.trans hL.1.symm) hown (hts _ hk) (hts _ ms_lx) (hts _ mi_i) (hts _ mc_lx) (by omega) (by omega) hcl hsl hd ?_
  have a1 := kk _ hL
  have b1 := lI_lt hrx hry
  have b2 := lI_lt hry hrx
  have b3 := lI_le hrx hry
  have b4 := lI_le hry hrx
  first
    | (have : (if lI y < lI x then lI x else lI y) = lI (max x y) := by
        simp only [b2]; split <;> (congr 1; omega)
       rw [this]; exact a1)
    | (have : (if lI y ≤ lI x then lI x else lI y) = lI (max x y) := by
        simp only [b4]; split <;> (congr 1; omega)
       rw [this]; exact a1)
theorem T.lmin (hd : decode M.2.1 pc = .ok (.invokestatic idx, 3)) (hk : Cond.methodLink M.1.cls idx Lib.MathLoose.min_long.x ∈ wA) (hrx : rl x) (hry : rl y) (hdd : 1 ≤ d) (hrm : (st.map fun v => v.category).sum ≤ 8) (kt : T E d M (pc + 3) ls (.long (lI (min x y)) :: st) h Q) : T E d M pc ls (.long (lI y) :: .long (lI x) :: st) h Q := by
  refine T.pl ?_ kt
  intro p e R s m args below meth c hC hf hl H lsA locs cells slots Q hP hS hL hcl hsl hz kk
  obtain ⟨hx, hb, hml, hown, hts, hrt, hlk, hnm, hK, hro, hB, hRS⟩ := hC
  refine va_mmin_long hx hb (hml.trans hL.1.symm) hown (hts _ hk) (hts _ ms_ln) (hts _ mi_i) (hts _ mc_ln) (by omega) (by omega) hcl hsl hd ?_
  have a1 := kk _ hL
  have b1 := lI_lt hrx hry
  have b2 := lI_lt hry hrx
  have b3 := lI_le hrx hry
  have b4 := lI_le hry hrx
  first
    | (have : (if lI y < lI x then lI y else lI x) = lI (min x y) := by
        simp only [b2]; split <;> (congr 1; omega)
       rw [this]; exact a1)
    | (have : (if lI x ≤ lI y then lI x else lI y) = lI (min x y) := by
        simp only [b3]; split <;> (congr 1; omega)
       rw [this]; exact a1)
end MATH
