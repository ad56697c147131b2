-- ===== numbers =====
def iI (z : Int) : Int32 := Int32.ofInt z
def lI (z : Int) : Int64 := Int64.ofInt z
def rg (x : Int) : Prop := -2147483648 ≤ x ∧ x ≤ 2147483647
def rl (x : Int) : Prop := -9223372036854775808 ≤ x ∧ x ≤ 9223372036854775807
noncomputable def bZ (p : Prop) : Int := @ite _ p (Classical.propDecidable p) 1 0
theorem bZ_t {p : Prop} (h : p) : bZ p = 1 := by unfold bZ; exact if_pos h
theorem bZ_f {p : Prop} (h : ¬ p) : bZ p = 0 := by unfold bZ; exact if_neg h
theorem bZ_01 (p : Prop) : bZ p = 0 ∨ bZ p = 1 := by by_cases h : p; exact Or.inr (bZ_t h); exact Or.inl (bZ_f h)
theorem bZ_iff {p q : Prop} (h : p ↔ q) : bZ p = bZ q := by by_cases hp : p; rw [bZ_t hp, bZ_t (h.mp hp)]; rw [bZ_f hp, bZ_f (fun z => hp (h.mpr z))]
theorem bZ_inj {p q : Prop} (h : bZ p = bZ q) : p ↔ q := by
  by_cases hp : p <;> by_cases hq : q
  · exact ⟨fun _ => hq, fun _ => hp⟩
  · rw [bZ_t hp, bZ_f hq] at h; cases h
  · rw [bZ_f hp, bZ_t hq] at h; cases h
  · exact ⟨fun z => absurd z hp, fun z => absurd z hq⟩
theorem iI_add (x y : Int) : iI x + iI y = iI (x + y) := (Int32.ofInt_add x y).symm
theorem iI_sub (x y : Int) : iI x - iI y = iI (x - y) := (Int32.ofInt_sub x y).symm
theorem iI_mul (x y : Int) : iI x * iI y = iI (x * y) := (Int32.ofInt_mul x y).symm
theorem iI_neg (x : Int) : -iI x = iI (-x) := (Int32.ofInt_neg x).symm
theorem lI_add (x y : Int) : lI x + lI y = lI (x + y) := (Int64.ofInt_add x y).symm
theorem lI_sub (x y : Int) : lI x - lI y = lI (x - y) := (Int64.ofInt_sub x y).symm
theorem lI_mul (x y : Int) : lI x * lI y = lI (x * y) := (Int64.ofInt_mul x y).symm
theorem lI_neg (x : Int) : -lI x = lI (-x) := (Int64.ofInt_neg x).symm
theorem iI_toInt {x : Int} (h : rg x) : (iI x).toInt = x := Int32.toInt_ofInt_of_le (by unfold rg at h; omega) (by unfold rg at h; omega)
theorem lI_toInt {x : Int} (h : rl x) : (lI x).toInt = x := Int64.toInt_ofInt_of_le (by unfold rl at h; omega) (by unfold rl at h; omega)
theorem iI_of (x : Int32) : iI x.toInt = x := Int32.ofInt_toInt x
theorem lI_of (x : Int64) : lI x.toInt = x := Int64.ofInt_toInt x
theorem rg_of (x : Int32) : rg x.toInt := by have h1 := x.toInt_lt; have h2 := x.le_toInt; unfold rg; omega
theorem rl_of (x : Int64) : rl x.toInt := by have h1 := x.toInt_lt; have h2 := x.le_toInt; unfold rl; omega
theorem iI_lt {x y : Int} (hx : rg x) (hy : rg y) : iI x < iI y ↔ x < y := by rw [Int32.lt_iff_toInt_lt, iI_toInt hx, iI_toInt hy]
theorem iI_le {x y : Int} (hx : rg x) (hy : rg y) : iI x ≤ iI y ↔ x ≤ y := by rw [Int32.le_iff_toInt_le, iI_toInt hx, iI_toInt hy]
theorem iI_eq {x y : Int} (hx : rg x) (hy : rg y) : iI x = iI y ↔ x = y := by rw [← Int32.toInt_inj, iI_toInt hx, iI_toInt hy]
theorem lI_lt {x y : Int} (hx : rl x) (hy : rl y) : lI x < lI y ↔ x < y := by rw [Int64.lt_iff_toInt_lt, lI_toInt hx, lI_toInt hy]
theorem lI_le {x y : Int} (hx : rl x) (hy : rl y) : lI x ≤ lI y ↔ x ≤ y := by rw [Int64.le_iff_toInt_le, lI_toInt hx, lI_toInt hy]
theorem lI_eq {x y : Int} (hx : rl x) (hy : rl y) : lI x = lI y ↔ x = y := by rw [← Int64.toInt_inj, lI_toInt hx, lI_toInt hy]
theorem iI_long {x : Int} (h : rg x) : (iI x).toInt64 = lI x := by
  have h1 : Int32.minValue.toInt = -2147483648 := by decide
  have h2 : Int32.maxValue.toInt = 2147483647 := by decide
  unfold rg at h
  exact Int32.toInt64_ofInt (by omega) (by omega)
theorem lI_int (x : Int) : (lI x).toInt32 = iI x := Int64.toInt32_ofInt
theorem iI_clamp {i : Nat} {x : Int} (h : x = i) (hi : i < 2147483648) : (iI x).toNatClampNeg = i := by
  subst h
  have := Int32.toNatClampNeg_ofInt_of_le (n := (i : Int)) (by omega) (by omega)
  unfold iI; rw [this]; omega
theorem iI_in {i N : Nat} {x : Int} (h : x = i) (hi : i < N) (hN : N < 2147483648) : vp_in (iI x) N := by
  unfold vp_in
  rw [iI_clamp h (by omega)]
  intro hh
  rcases hh with hh | hh
  · have h0 : (0 : Int32) = iI 0 := rfl
    rw [h0, iI_lt (by unfold rg; omega) (by unfold rg; omega)] at hh
    omega
  · omega
theorem lI_div {x y : Int} (hx : rl x) (hy : rl y) (h0 : 0 ≤ x) (h1 : 0 < y) : lI x / lI y = lI (x / y) := by
  rw [← Int64.toInt_inj]
  have hne : lI y ≠ -1 := by
    intro h
    have h2 : (-1 : Int64) = lI (-1) := rfl
    rw [h2, lI_eq hy (by unfold rl; omega)] at h
    omega
  rw [Int64.toInt_div_of_ne_right _ _ hne, lI_toInt hx, lI_toInt hy, lI_toInt]
  · exact Int.tdiv_eq_ediv_of_nonneg h0
  · have := Int.ediv_nonneg h0 (Int.le_of_lt h1)
    have := Int.ediv_le_self y h0
    unfold rl at *; omega
theorem iI_div {x y : Int} (hx : rg x) (hy : rg y) (h0 : 0 ≤ x) (h1 : 0 < y) : iI x / iI y = iI (x / y) := by
  rw [← Int32.toInt_inj]
  have hne : iI y ≠ -1 := by
    intro h
    have h2 : (-1 : Int32) = iI (-1) := rfl
    rw [h2, iI_eq hy (by unfold rg; omega)] at h
    omega
  rw [Int32.toInt_div_of_ne_right _ _ hne, iI_toInt hx, iI_toInt hy, iI_toInt]
  · exact Int.tdiv_eq_ediv_of_nonneg h0
  · have := Int.ediv_nonneg h0 (Int.le_of_lt h1)
    have := Int.ediv_le_self y h0
    unfold rg at *; omega
theorem narZ {x : Int} (h : x = 0 ∨ x = 1) : narrow .boolean (.int (iI x)) = .int (iI x) := by rcases h with rfl | rfl <;> rfl
theorem fitZ {x : Int} (h : x = 0 ∨ x = 1) : fits .boolean (.int (iI x)) = true := by rcases h with rfl | rfl <;> rfl
theorem npZ {x : Int} (h : x = 0 ∨ x = 1) : vp_nar .boolean (iI x) = iI x := by rcases h with rfl | rfl <;> rfl
section ROWS
variable {E : Ev} {d : Nat} {M : MI} {pc pc' : Nat} {ls ls' : List (Option Value)} {st : List Value} {h : Hp} {Q : Option Value → Hp → Prop}

theorem T.iconst {n : Int} (hd : decode M.2.1 pc = .ok (.iconst n, 1)) (k : T E d M (pc + 1) ls (.int (iI n) :: st) h Q) : T E d M pc ls (st) h Q := by
  refine T.pl ?_ k
  intro p e R s m args below meth c hC hf hl H lsA locs cells slots Q hP hS hL hcl hsl hz kk
  obtain ⟨hx, hb, hml, hown, hts, hrt, hlk, hnm, hK, hro, hB, hRS⟩ := hC
  exact lv_iconst hx hb hd rfl (kk _ hL)
theorem T.bipush {n : Int} (hd : decode M.2.1 pc = .ok (.bipush n, 2)) (k : T E d M (pc + 2) ls (.int (iI n) :: st) h Q) (hv : (Int8.ofInt n).toInt32 = iI n := by decide) : T E d M pc ls (st) h Q := by
  refine T.pl ?_ k
  intro p e R s m args below meth c hC hf hl H lsA locs cells slots Q hP hS hL hcl hsl hz kk
  obtain ⟨hx, hb, hml, hown, hts, hrt, hlk, hnm, hK, hro, hB, hRS⟩ := hC
  exact lv_bipush hx hb hd hv (kk _ hL)
theorem T.sipush {n : Int} (hd : decode M.2.1 pc = .ok (.sipush n, 3)) (k : T E d M (pc + 3) ls (.int (iI n) :: st) h Q) (hv : (Int16.ofInt n).toInt32 = iI n := by decide) : T E d M pc ls (st) h Q := by
  refine T.pl ?_ k
  intro p e R s m args below meth c hC hf hl H lsA locs cells slots Q hP hS hL hcl hsl hz kk
  obtain ⟨hx, hb, hml, hown, hts, hrt, hlk, hnm, hK, hro, hB, hRS⟩ := hC
  exact lv_sipush hx hb hd hv (kk _ hL)
theorem T.lconst0 (hd : decode M.2.1 pc = .ok (.lconst 0, 1)) (k : T E d M (pc + 1) ls (.long (lI 0) :: st) h Q) : T E d M pc ls (st) h Q := by
  refine T.pl ?_ k
  intro p e R s m args below meth c hC hf hl H lsA locs cells slots Q hP hS hL hcl hsl hz kk
  obtain ⟨hx, hb, hml, hown, hts, hrt, hlk, hnm, hK, hro, hB, hRS⟩ := hC
  exact lv_lconst hx hb hd rfl (kk _ hL)
theorem T.lconst1 (hd : decode M.2.1 pc = .ok (.lconst 1, 1)) (k : T E d M (pc + 1) ls (.long (lI 1) :: st) h Q) : T E d M pc ls (st) h Q := by
  refine T.pl ?_ k
  intro p e R s m args below meth c hC hf hl H lsA locs cells slots Q hP hS hL hcl hsl hz kk
  obtain ⟨hx, hb, hml, hown, hts, hrt, hlk, hnm, hK, hro, hB, hRS⟩ := hC
  exact lv_lconst hx hb hd rfl (kk _ hL)
theorem T.ldc2 {idx : Nat} {z : Int} (hd : decode M.2.1 pc = .ok (.ldc2_w idx, 3)) (hw : Cond.constantLong M.1.cls idx (lI z) ∈ wA) (k : T E d M (pc + 3) ls (.long (lI z) :: st) h Q) : T E d M pc ls (st) h Q := by
  refine T.pl ?_ k
  intro p e R s m args below meth c hC hf hl H lsA locs cells slots Q hP hS hL hcl hsl hz kk
  obtain ⟨hx, hb, hml, hown, hts, hrt, hlk, hnm, hK, hro, hB, hRS⟩ := hC
  exact lv_ldc2 hx hb hown (hts _ hw) hd (kk _ hL)
theorem T.iload_n {k0 : Fin 4} {x : Int32} (hd : decode M.2.1 pc = .ok (.iload_n k0, 1)) (hl0 : ls[(k0 : Nat)]? = some (some (.int x))) (k : T E d M (pc + 1) ls (.int x :: st) h Q) : T E d M pc ls (st) h Q := by
  refine T.pl ?_ k
  intro p e R s m args below meth c hC hf hl H lsA locs cells slots Q hP hS hL hcl hsl hz kk
  obtain ⟨hx, hb, hml, hown, hts, hrt, hlk, hnm, hK, hro, hB, hRS⟩ := hC
  exact lv_iload_n hx hb hd rfl (hL.at hl0) (kk _ hL)
theorem T.iload {i : Nat} {x : Int32} (hd : decode M.2.1 pc = .ok (.iload i, 2)) (hl0 : ls[i]? = some (some (.int x))) (k : T E d M (pc + 2) ls (.int x :: st) h Q) : T E d M pc ls (st) h Q := by
  refine T.pl ?_ k
  intro p e R s m args below meth c hC hf hl H lsA locs cells slots Q hP hS hL hcl hsl hz kk
  obtain ⟨hx, hb, hml, hown, hts, hrt, hlk, hnm, hK, hro, hB, hRS⟩ := hC
  exact lv_iload hx hb hd (hL.at hl0) (kk _ hL)
theorem T.istore_n {k0 : Fin 4} {x : Int32} (hd : decode M.2.1 pc = .ok (.istore_n k0, 1)) (he : ls.set (k0 : Nat) (some (.int x)) = ls') (k : T E d M (pc + 1) ls' (st) h Q) (ho : okS ls (k0 : Nat) = true := by rfl) (hn : (k0 : Nat) < M.2.2.1 := by decide) : T E d M pc ls (.int x :: st) h Q := by
  refine T.pl ?_ k
  intro p e R s m args below meth c hC hf hl H lsA locs cells slots Q hP hS hL hcl hsl hz kk
  obtain ⟨hx, hb, hml, hown, hts, hrt, hlk, hnm, hK, hro, hB, hRS⟩ := hC
  subst he
  exact lv_istore_n hx hb hd rfl hL hn rfl (fun lsB hB => kk _ (lvO.set1 ho hB))
theorem T.istore {i : Nat} {x : Int32} (hd : decode M.2.1 pc = .ok (.istore i, 2)) (he : ls.set i (some (.int x)) = ls') (k : T E d M (pc + 2) ls' (st) h Q) (ho : okS ls i = true := by rfl) (hn : i < M.2.2.1 := by decide) : T E d M pc ls (.int x :: st) h Q := by
  refine T.pl ?_ k
  intro p e R s m args below meth c hC hf hl H lsA locs cells slots Q hP hS hL hcl hsl hz kk
  obtain ⟨hx, hb, hml, hown, hts, hrt, hlk, hnm, hK, hro, hB, hRS⟩ := hC
  subst he
  exact lv_istore hx hb hd hL hn rfl (fun lsB hB => kk _ (lvO.set1 ho hB))
theorem T.lload_n {k0 : Fin 4} {x : Int64} (hd : decode M.2.1 pc = .ok (.lload_n k0, 1)) (hl0 : ls[(k0 : Nat)]? = some (some (.long x))) (k : T E d M (pc + 1) ls (.long x :: st) h Q) : T E d M pc ls (st) h Q := by
  refine T.pl ?_ k
  intro p e R s m args below meth c hC hf hl H lsA locs cells slots Q hP hS hL hcl hsl hz kk
  obtain ⟨hx, hb, hml, hown, hts, hrt, hlk, hnm, hK, hro, hB, hRS⟩ := hC
  exact lv_lload_n hx hb hd rfl (hL.at hl0) (kk _ hL)
theorem T.lload {i : Nat} {x : Int64} (hd : decode M.2.1 pc = .ok (.lload i, 2)) (hl0 : ls[i]? = some (some (.long x))) (k : T E d M (pc + 2) ls (.long x :: st) h Q) : T E d M pc ls (st) h Q := by
  refine T.pl ?_ k
  intro p e R s m args below meth c hC hf hl H lsA locs cells slots Q hP hS hL hcl hsl hz kk
  obtain ⟨hx, hb, hml, hown, hts, hrt, hlk, hnm, hK, hro, hB, hRS⟩ := hC
  exact lv_lload hx hb hd (hL.at hl0) (kk _ hL)
theorem T.lstore_n {k0 : Fin 4} {x : Int64} (hd : decode M.2.1 pc = .ok (.lstore_n k0, 1)) (he : ((ls.set (k0 : Nat) (some (.long x))).set ((k0 : Nat) + 1) none) = ls') (k : T E d M (pc + 1) ls' (st) h Q) (ho : okS ls (k0 : Nat) = true := by rfl) (hn : (k0 : Nat) + 1 < M.2.2.1 := by decide) : T E d M pc ls (.long x :: st) h Q := by
  refine T.pl ?_ k
  intro p e R s m args below meth c hC hf hl H lsA locs cells slots Q hP hS hL hcl hsl hz kk
  obtain ⟨hx, hb, hml, hown, hts, hrt, hlk, hnm, hK, hro, hB, hRS⟩ := hC
  subst he
  exact lv_lstore_n hx hb hd rfl hL hn rfl (fun lsB hB => kk _ (lvO.set2 ho hB))
theorem T.lstore {i : Nat} {x : Int64} (hd : decode M.2.1 pc = .ok (.lstore i, 2)) (he : ((ls.set i (some (.long x))).set (i + 1) none) = ls') (k : T E d M (pc + 2) ls' (st) h Q) (ho : okS ls i = true := by rfl) (hn : i + 1 < M.2.2.1 := by decide) : T E d M pc ls (.long x :: st) h Q := by
  refine T.pl ?_ k
  intro p e R s m args below meth c hC hf hl H lsA locs cells slots Q hP hS hL hcl hsl hz kk
  obtain ⟨hx, hb, hml, hown, hts, hrt, hlk, hnm, hK, hro, hB, hRS⟩ := hC
  subst he
  exact lv_lstore hx hb hd hL hn rfl (fun lsB hB => kk _ (lvO.set2 ho hB))
theorem T.aload_n {k0 : Fin 4} {x : Nat} (hd : decode M.2.1 pc = .ok (.aload_n k0, 1)) (hl0 : ls[(k0 : Nat)]? = some (some (.ref x))) (k : T E d M (pc + 1) ls (.ref x :: st) h Q) : T E d M pc ls (st) h Q := by
  refine T.pl ?_ k
  intro p e R s m args below meth c hC hf hl H lsA locs cells slots Q hP hS hL hcl hsl hz kk
  obtain ⟨hx, hb, hml, hown, hts, hrt, hlk, hnm, hK, hro, hB, hRS⟩ := hC
  exact lv_aload_n hx hb hd rfl (hL.at hl0) (kk _ hL)
theorem T.aload {i : Nat} {x : Nat} (hd : decode M.2.1 pc = .ok (.aload i, 2)) (hl0 : ls[i]? = some (some (.ref x))) (k : T E d M (pc + 2) ls (.ref x :: st) h Q) : T E d M pc ls (st) h Q := by
  refine T.pl ?_ k
  intro p e R s m args below meth c hC hf hl H lsA locs cells slots Q hP hS hL hcl hsl hz kk
  obtain ⟨hx, hb, hml, hown, hts, hrt, hlk, hnm, hK, hro, hB, hRS⟩ := hC
  exact lv_aload hx hb hd (hL.at hl0) (kk _ hL)
theorem T.astore_n {k0 : Fin 4} {x : Nat} (hd : decode M.2.1 pc = .ok (.astore_n k0, 1)) (he : ls.set (k0 : Nat) (some (.ref x)) = ls') (k : T E d M (pc + 1) ls' (st) h Q) (ho : okS ls (k0 : Nat) = true := by rfl) (hn : (k0 : Nat) < M.2.2.1 := by decide) : T E d M pc ls (.ref x :: st) h Q := by
  refine T.pl ?_ k
  intro p e R s m args below meth c hC hf hl H lsA locs cells slots Q hP hS hL hcl hsl hz kk
  obtain ⟨hx, hb, hml, hown, hts, hrt, hlk, hnm, hK, hro, hB, hRS⟩ := hC
  subst he
  exact lv_astore_n hx hb hd rfl hL hn rfl (fun lsB hB => kk _ (lvO.set1 ho hB))
theorem T.astore {i : Nat} {x : Nat} (hd : decode M.2.1 pc = .ok (.astore i, 2)) (he : ls.set i (some (.ref x)) = ls') (k : T E d M (pc + 2) ls' (st) h Q) (ho : okS ls i = true := by rfl) (hn : i < M.2.2.1 := by decide) : T E d M pc ls (.ref x :: st) h Q := by
  refine T.pl ?_ k
  intro p e R s m args below meth c hC hf hl H lsA locs cells slots Q hP hS hL hcl hsl hz kk
  obtain ⟨hx, hb, hml, hown, hts, hrt, hlk, hnm, hK, hro, hB, hRS⟩ := hC
  subst he
  exact lv_astore hx hb hd hL hn rfl (fun lsB hB => kk _ (lvO.set1 ho hB))
theorem lv_find {ls : List (Option Value)} {i : Nat} {v : Value} (h : ls[i]? = some (some v)) : ∃ k : Nat, (lvL 0 ls)[k]? = some (i, v) := List.getElem?_of_mem (mem_lvL.mpr ⟨Nat.zero_le _, h⟩)
theorem T.iinc {i : Nat} {n x : Int} (hd : decode M.2.1 pc = .ok (.iinc i n, 3)) (hl0 : ls[i]? = some (some (.int (iI x)))) (he : ls.set i (some (.int (iI (x + n)))) = ls') (k : T E d M (pc + 3) ls' (st) h Q) (ho : okS ls i = true := by rfl) (hn : i < M.2.2.1 := by decide) : T E d M pc ls (st) h Q := by
  refine T.pl ?_ k
  intro p e R s m args below meth c hC hf hl H lsA locs cells slots Q hP hS hL hcl hsl hz kk
  obtain ⟨hx, hb, hml, hown, hts, hrt, hlk, hnm, hK, hro, hB, hRS⟩ := hC
  subst he
  obtain ⟨k1, hk1⟩ := lv_find hl0
  exact lv_iinc hx hb hd hL hk1 (iI_add x n) hn rfl (fun lsB hB => kk _ (lvO.set1 ho hB))
theorem T.iadd {x y : Int} (hd : decode M.2.1 pc = .ok (.iadd, 1)) (k : T E d M (pc + 1) ls (.int (iI (x + y)) :: st) h Q) : T E d M pc ls (.int (iI y) :: .int (iI x) :: st) h Q := by
  refine T.pl ?_ k
  intro p e R s m args below meth c hC hf hl H lsA locs cells slots Q hP hS hL hcl hsl hz kk
  obtain ⟨hx, hb, hml, hown, hts, hrt, hlk, hnm, hK, hro, hB, hRS⟩ := hC
  refine lv_iadd hx hb hd ?_
  rw [iI_add]
  exact kk _ hL
theorem T.isub {x y : Int} (hd : decode M.2.1 pc = .ok (.isub, 1)) (k : T E d M (pc + 1) ls (.int (iI (x - y)) :: st) h Q) : T E d M pc ls (.int (iI y) :: .int (iI x) :: st) h Q := by
  refine T.pl ?_ k
  intro p e R s m args below meth c hC hf hl H lsA locs cells slots Q hP hS hL hcl hsl hz kk
  obtain ⟨hx, hb, hml, hown, hts, hrt, hlk, hnm, hK, hro, hB, hRS⟩ := hC
  refine lv_isub hx hb hd ?_
  rw [iI_sub]
  exact kk _ hL
theorem T.imul {x y : Int} (hd : decode M.2.1 pc = .ok (.imul, 1)) (k : T E d M (pc + 1) ls (.int (iI (x * y)) :: st) h Q) : T E d M pc ls (.int (iI y) :: .int (iI x) :: st) h Q := by
  refine T.pl ?_ k
  intro p e R s m args below meth c hC hf hl H lsA locs cells slots Q hP hS hL hcl hsl hz kk
  obtain ⟨hx, hb, hml, hown, hts, hrt, hlk, hnm, hK, hro, hB, hRS⟩ := hC
  refine lv_imul hx hb hd ?_
  rw [iI_mul]
  exact kk _ hL
theorem T.ladd {x y : Int} (hd : decode M.2.1 pc = .ok (.ladd, 1)) (k : T E d M (pc + 1) ls (.long (lI (x + y)) :: st) h Q) : T E d M pc ls (.long (lI y) :: .long (lI x) :: st) h Q := by
  refine T.pl ?_ k
  intro p e R s m args below meth c hC hf hl H lsA locs cells slots Q hP hS hL hcl hsl hz kk
  obtain ⟨hx, hb, hml, hown, hts, hrt, hlk, hnm, hK, hro, hB, hRS⟩ := hC
  refine lv_ladd hx hb hd ?_
  rw [lI_add]
  exact kk _ hL
theorem T.lsub {x y : Int} (hd : decode M.2.1 pc = .ok (.lsub, 1)) (k : T E d M (pc + 1) ls (.long (lI (x - y)) :: st) h Q) : T E d M pc ls (.long (lI y) :: .long (lI x) :: st) h Q := by
  refine T.pl ?_ k
  intro p e R s m args below meth c hC hf hl H lsA locs cells slots Q hP hS hL hcl hsl hz kk
  obtain ⟨hx, hb, hml, hown, hts, hrt, hlk, hnm, hK, hro, hB, hRS⟩ := hC
  refine lv_lsub hx hb hd ?_
  rw [lI_sub]
  exact kk _ hL
theorem T.lmul {x y : Int} (hd : decode M.2.1 pc = .ok (.lmul, 1)) (k : T E d M (pc + 1) ls (.long (lI (x * y)) :: st) h Q) : T E d M pc ls (.long (lI y) :: .long (lI x) :: st) h Q := by
  refine T.pl ?_ k
  intro p e R s m args below meth c hC hf hl H lsA locs cells slots Q hP hS hL hcl hsl hz kk
  obtain ⟨hx, hb, hml, hown, hts, hrt, hlk, hnm, hK, hro, hB, hRS⟩ := hC
  refine lv_lmul hx hb hd ?_
  rw [lI_mul]
  exact kk _ hL
theorem T.ineg {x : Int} (hd : decode M.2.1 pc = .ok (.ineg, 1)) (k : T E d M (pc + 1) ls (.int (iI (-x)) :: st) h Q) : T E d M pc ls (.int (iI x) :: st) h Q := by
  refine T.pl ?_ k
  intro p e R s m args below meth c hC hf hl H lsA locs cells slots Q hP hS hL hcl hsl hz kk
  obtain ⟨hx, hb, hml, hown, hts, hrt, hlk, hnm, hK, hro, hB, hRS⟩ := hC
  refine lv_ineg hx hb hd ?_
  rw [iI_neg]
  exact kk _ hL
theorem T.lneg {x : Int} (hd : decode M.2.1 pc = .ok (.lneg, 1)) (k : T E d M (pc + 1) ls (.long (lI (-x)) :: st) h Q) : T E d M pc ls (.long (lI x) :: st) h Q := by
  refine T.pl ?_ k
  intro p e R s m args below meth c hC hf hl H lsA locs cells slots Q hP hS hL hcl hsl hz kk
  obtain ⟨hx, hb, hml, hown, hts, hrt, hlk, hnm, hK, hro, hB, hRS⟩ := hC
  refine lv_lneg hx hb hd ?_
  rw [lI_neg]
  exact kk _ hL
theorem T.ldiv {x y : Int} (hd : decode M.2.1 pc = .ok (.ldiv, 1)) (hrx : rl x) (hry : rl y) (h0 : 0 ≤ x) (h1 : 0 < y) (k : T E d M (pc + 1) ls (.long (lI (x / y)) :: st) h Q) : T E d M pc ls (.long (lI y) :: .long (lI x) :: st) h Q := by
  refine T.pl ?_ k
  intro p e R s m args below meth c hC hf hl H lsA locs cells slots Q hP hS hL hcl hsl hz kk
  obtain ⟨hx, hb, hml, hown, hts, hrt, hlk, hnm, hK, hro, hB, hRS⟩ := hC
  refine lv_ldiv hx hb hd (fun e0 => ?_) ?_
  · rw [show (0 : Int64) = lI 0 from rfl, lI_eq hry (by unfold rl; omega)] at e0; omega
  · rw [lI_div hrx hry h0 h1]; exact kk _ hL
theorem T.idiv {x y : Int} (hd : decode M.2.1 pc = .ok (.idiv, 1)) (hrx : rg x) (hry : rg y) (h0 : 0 ≤ x) (h1 : 0 < y) (k : T E d M (pc + 1) ls (.int (iI (x / y)) :: st) h Q) : T E d M pc ls (.int (iI y) :: .int (iI x) :: st) h Q := by
  refine T.pl ?_ k
  intro p e R s m args below meth c hC hf hl H lsA locs cells slots Q hP hS hL hcl hsl hz kk
  obtain ⟨hx, hb, hml, hown, hts, hrt, hlk, hnm, hK, hro, hB, hRS⟩ := hC
  refine lv_idiv hx hb hd (fun e0 => ?_) ?_
  · rw [show (0 : Int32) = iI 0 from rfl, iI_eq hry (by unfold rg; omega)] at e0; omega
  · rw [iI_div hrx hry h0 h1]; exact kk _ hL
theorem T.irem {x y : Int} (hd : decode M.2.1 pc = .ok (.irem, 1)) (hrx : rg x) (hry : rg y) (h0 : 0 ≤ x) (h1 : 0 < y) (k : T E d M (pc + 1) ls (.int (iI (x % y)) :: st) h Q) : T E d M pc ls (.int (iI y) :: .int (iI x) :: st) h Q := by
  refine T.pl ?_ k
  intro p e R s m args below meth c hC hf hl H lsA locs cells slots Q hP hS hL hcl hsl hz kk
  obtain ⟨hx, hb, hml, hown, hts, hrt, hlk, hnm, hK, hro, hB, hRS⟩ := hC
  refine lv_irem hx hb hd (fun e0 => ?_) ?_
  · rw [show (0 : Int32) = iI 0 from rfl, iI_eq hry (by unfold rg; omega)] at e0; omega
  · rw [iI_div hrx hry h0 h1, iI_mul, iI_sub, show x - x / y * y = x % y by rw [Int.emod_def, Int.mul_comm]]; exact kk _ hL
theorem T.iand {x y : Int32} (hd : decode M.2.1 pc = .ok (.iand, 1)) (k : T E d M (pc + 1) ls (.int (x &&& y) :: st) h Q) : T E d M pc ls (.int y :: .int x :: st) h Q := by
  refine T.pl ?_ k
  intro p e R s m args below meth c hC hf hl H lsA locs cells slots Q hP hS hL hcl hsl hz kk
  obtain ⟨hx, hb, hml, hown, hts, hrt, hlk, hnm, hK, hro, hB, hRS⟩ := hC
  exact lv_iand hx hb hd (kk _ hL)
theorem T.ior {x y : Int32} (hd : decode M.2.1 pc = .ok (.ior, 1)) (k : T E d M (pc + 1) ls (.int (x ||| y) :: st) h Q) : T E d M pc ls (.int y :: .int x :: st) h Q := by
  refine T.pl ?_ k
  intro p e R s m args below meth c hC hf hl H lsA locs cells slots Q hP hS hL hcl hsl hz kk
  obtain ⟨hx, hb, hml, hown, hts, hrt, hlk, hnm, hK, hro, hB, hRS⟩ := hC
  exact lv_ior hx hb hd (kk _ hL)
theorem T.land {x y : Int64} (hd : decode M.2.1 pc = .ok (.land, 1)) (k : T E d M (pc + 1) ls (.long (x &&& y) :: st) h Q) : T E d M pc ls (.long y :: .long x :: st) h Q := by
  refine T.pl ?_ k
  intro p e R s m args below meth c hC hf hl H lsA locs cells slots Q hP hS hL hcl hsl hz kk
  obtain ⟨hx, hb, hml, hown, hts, hrt, hlk, hnm, hK, hro, hB, hRS⟩ := hC
  exact lv_land hx hb hd (kk _ hL)
theorem T.lor {x y : Int64} (hd : decode M.2.1 pc = .ok (.lor, 1)) (k : T E d M (pc + 1) ls (.long (x ||| y) :: st) h Q) : T E d M pc ls (.long y :: .long x :: st) h Q := by
  refine T.pl ?_ k
  intro p e R s m args below meth c hC hf hl H lsA locs cells slots Q hP hS hL hcl hsl hz kk
  obtain ⟨hx, hb, hml, hown, hts, hrt, hlk, hnm, hK, hro, hB, hRS⟩ := hC
  exact lv_lor hx hb hd (kk _ hL)
theorem T.ishl {x y : Int32} (hd : decode M.2.1 pc = .ok (.ishl, 1)) (k : T E d M (pc + 1) ls (.int (x <<< (y &&& 31)) :: st) h Q) : T E d M pc ls (.int y :: .int x :: st) h Q := by
  refine T.pl ?_ k
  intro p e R s m args below meth c hC hf hl H lsA locs cells slots Q hP hS hL hcl hsl hz kk
  obtain ⟨hx, hb, hml, hown, hts, hrt, hlk, hnm, hK, hro, hB, hRS⟩ := hC
  exact lv_ishl hx hb hd (kk _ hL)
theorem T.ishr {x y : Int32} (hd : decode M.2.1 pc = .ok (.ishr, 1)) (k : T E d M (pc + 1) ls (.int (x >>> (y &&& 31)) :: st) h Q) : T E d M pc ls (.int y :: .int x :: st) h Q := by
  refine T.pl ?_ k
  intro p e R s m args below meth c hC hf hl H lsA locs cells slots Q hP hS hL hcl hsl hz kk
  obtain ⟨hx, hb, hml, hown, hts, hrt, hlk, hnm, hK, hro, hB, hRS⟩ := hC
  exact lv_ishr hx hb hd (kk _ hL)
theorem T.lshl {x : Int64} {y : Int32} (hd : decode M.2.1 pc = .ok (.lshl, 1)) (k : T E d M (pc + 1) ls (.long (x <<< (y.toInt64 &&& 63)) :: st) h Q) : T E d M pc ls (.int y :: .long x :: st) h Q := by
  refine T.pl ?_ k
  intro p e R s m args below meth c hC hf hl H lsA locs cells slots Q hP hS hL hcl hsl hz kk
  obtain ⟨hx, hb, hml, hown, hts, hrt, hlk, hnm, hK, hro, hB, hRS⟩ := hC
  exact lv_lshl hx hb hd rfl (kk _ hL)
theorem T.lshr {x : Int64} {y : Int32} (hd : decode M.2.1 pc = .ok (.lshr, 1)) (k : T E d M (pc + 1) ls (.long (x >>> (y.toInt64 &&& 63)) :: st) h Q) : T E d M pc ls (.int y :: .long x :: st) h Q := by
  refine T.pl ?_ k
  intro p e R s m args below meth c hC hf hl H lsA locs cells slots Q hP hS hL hcl hsl hz kk
  obtain ⟨hx, hb, hml, hown, hts, hrt, hlk, hnm, hK, hro, hB, hRS⟩ := hC
  exact lv_lshr hx hb hd rfl (kk _ hL)
theorem T.lushr {x : Int64} {y : Int32} (hd : decode M.2.1 pc = .ok (.lushr, 1)) (k : T E d M (pc + 1) ls (.long ((x.toUInt64 >>> (y.toInt64.toUInt64 &&& Int64.toUInt64 63)).toInt64) :: st) h Q) : T E d M pc ls (.int y :: .long x :: st) h Q := by
  refine T.pl ?_ k
  intro p e R s m args below meth c hC hf hl H lsA locs cells slots Q hP hS hL hcl hsl hz kk
  obtain ⟨hx, hb, hml, hown, hts, hrt, hlk, hnm, hK, hro, hB, hRS⟩ := hC
  exact lv_lushr hx hb hd rfl (kk _ hL)
theorem T.i2lR {x : Int32} (hd : decode M.2.1 pc = .ok (.i2l, 1)) (k : T E d M (pc + 1) ls (.long x.toInt64 :: st) h Q) : T E d M pc ls (.int x :: st) h Q := by
  refine T.pl ?_ k
  intro p e R s m args below meth c hC hf hl H lsA locs cells slots Q hP hS hL hcl hsl hz kk
  obtain ⟨hx, hb, hml, hown, hts, hrt, hlk, hnm, hK, hro, hB, hRS⟩ := hC
  exact lv_i2l hx hb hd rfl (kk _ hL)
theorem T.i2l {x : Int} (hd : decode M.2.1 pc = .ok (.i2l, 1)) (hrx : rg x) (k : T E d M (pc + 1) ls (.long (lI x) :: st) h Q) : T E d M pc ls (.int (iI x) :: st) h Q := by
  refine T.pl ?_ k
  intro p e R s m args below meth c hC hf hl H lsA locs cells slots Q hP hS hL hcl hsl hz kk
  obtain ⟨hx, hb, hml, hown, hts, hrt, hlk, hnm, hK, hro, hB, hRS⟩ := hC
  exact lv_i2l hx hb hd (iI_long hrx) (kk _ hL)
theorem T.l2i {x : Int64} (hd : decode M.2.1 pc = .ok (.l2i, 1)) (k : T E d M (pc + 1) ls (.int x.toInt32 :: st) h Q) : T E d M pc ls (.long x :: st) h Q := by
  refine T.pl ?_ k
  intro p e R s m args below meth c hC hf hl H lsA locs cells slots Q hP hS hL hcl hsl hz kk
  obtain ⟨hx, hb, hml, hown, hts, hrt, hlk, hnm, hK, hro, hB, hRS⟩ := hC
  exact lv_l2i hx hb hd rfl (kk _ hL)
theorem T.i2b {x : Int32} (hd : decode M.2.1 pc = .ok (.i2b, 1)) (k : T E d M (pc + 1) ls (.int x.toInt8.toInt32 :: st) h Q) : T E d M pc ls (.int x :: st) h Q := by
  refine T.pl ?_ k
  intro p e R s m args below meth c hC hf hl H lsA locs cells slots Q hP hS hL hcl hsl hz kk
  obtain ⟨hx, hb, hml, hown, hts, hrt, hlk, hnm, hK, hro, hB, hRS⟩ := hC
  exact lv_i2b hx hb hd rfl (kk _ hL)
theorem T.i2s {x : Int32} (hd : decode M.2.1 pc = .ok (.i2s, 1)) (k : T E d M (pc + 1) ls (.int x.toInt16.toInt32 :: st) h Q) : T E d M pc ls (.int x :: st) h Q := by
  refine T.pl ?_ k
  intro p e R s m args below meth c hC hf hl H lsA locs cells slots Q hP hS hL hcl hsl hz kk
  obtain ⟨hx, hb, hml, hown, hts, hrt, hlk, hnm, hK, hro, hB, hRS⟩ := hC
  exact lv_i2s hx hb hd rfl (kk _ hL)
theorem T.i2c {x : Int32} (hd : decode M.2.1 pc = .ok (.i2c, 1)) (k : T E d M (pc + 1) ls (.int (x.toUInt32 % 65536).toInt32 :: st) h Q) : T E d M pc ls (.int x :: st) h Q := by
  refine T.pl ?_ k
  intro p e R s m args below meth c hC hf hl H lsA locs cells slots Q hP hS hL hcl hsl hz kk
  obtain ⟨hx, hb, hml, hown, hts, hrt, hlk, hnm, hK, hro, hB, hRS⟩ := hC
  exact lv_i2c hx hb hd rfl (kk _ hL)
theorem T.dup {v : Value} (hd : decode M.2.1 pc = .ok (.dup, 1)) (k : T E d M (pc + 1) ls (v :: v :: st) h Q) (hv : v.category = 1 := by rfl) : T E d M pc ls (v :: st) h Q := by
  refine T.pl ?_ k
  intro p e R s m args below meth c hC hf hl H lsA locs cells slots Q hP hS hL hcl hsl hz kk
  obtain ⟨hx, hb, hml, hown, hts, hrt, hlk, hnm, hK, hro, hB, hRS⟩ := hC
  exact lv_dup hx hb hd hv (kk _ hL)
theorem T.dup2 {v w : Value} (hd : decode M.2.1 pc = .ok (.dup2, 1)) (k : T E d M (pc + 1) ls (v :: w :: v :: w :: st) h Q) (hv : v.category = 1 := by rfl) (hw : w.category = 1 := by rfl) : T E d M pc ls (v :: w :: st) h Q := by
  refine T.pl ?_ k
  intro p e R s m args below meth c hC hf hl H lsA locs cells slots Q hP hS hL hcl hsl hz kk
  obtain ⟨hx, hb, hml, hown, hts, hrt, hlk, hnm, hK, hro, hB, hRS⟩ := hC
  exact lv_dup2_11 hx hb hd hv hw (kk _ hL)
theorem T.topi {v : Int32} {z : Int} (he : v = iI z) (k : T E d M pc ls (.int (iI z) :: st) h Q) : T E d M pc ls (.int v :: st) h Q := by rw [he]; exact k
theorem T.topl {v : Int64} {z : Int} (he : v = lI z) (k : T E d M pc ls (.long (lI z) :: st) h Q) : T E d M pc ls (.long v :: st) h Q := by rw [he]; exact k
theorem T.icmp_lt {x y : Int} {off : Int} (tgt : Nat) (hd : decode M.2.1 pc = .ok (.if_icmp .lt off, 3)) (hrx : rg x) (hry : rg y) (kt : x < y → T E d M tgt ls st h Q) (kf : y ≤ x → T E d M (pc + 3) ls st h Q) (ht : (pc : Int) + off = (tgt : Int) := by decide) : T E d M pc ls (.int (iI y) :: .int (iI x) :: st) h Q := by
  by_cases hq : x < y
  · refine T.pl ?_ (kt hq)
    intro p e R s m args below meth c hC hf hl H lsA locs cells slots Q hP hS hL hcl hsl hz kk
    obtain ⟨hx, hb, hml, hown, hts, hrt, hlk, hnm, hK, hro, hB, hRS⟩ := hC
    exact lv_icmp_lt hx hb hd ht (fun _ => kk _ hL) (fun z => absurd ((iI_lt hrx hry).mpr hq) z)
  · refine T.pl ?_ (kf (by omega))
    intro p e R s m args below meth c hC hf hl H lsA locs cells slots Q hP hS hL hcl hsl hz kk
    obtain ⟨hx, hb, hml, hown, hts, hrt, hlk, hnm, hK, hro, hB, hRS⟩ := hC
    exact lv_icmp_lt hx hb hd ht (fun z => (hq ((iI_lt hrx hry).mp z)).elim) (fun _ => kk _ hL)
theorem T.if_lt {x : Int} {off : Int} (tgt : Nat) (hd : decode M.2.1 pc = .ok (.ifCond .lt off, 3)) (hrx : rg x) (kt : x < 0 → T E d M tgt ls st h Q) (kf : 0 ≤ x → T E d M (pc + 3) ls st h Q) (ht : (pc : Int) + off = (tgt : Int) := by decide) : T E d M pc ls (.int (iI x) :: st) h Q := by
  have hry : rg 0 := by unfold rg; omega
  by_cases hq : x < 0
  · refine T.pl ?_ (kt hq)
    intro p e R s m args below meth c hC hf hl H lsA locs cells slots Q hP hS hL hcl hsl hz kk
    obtain ⟨hx, hb, hml, hown, hts, hrt, hlk, hnm, hK, hro, hB, hRS⟩ := hC
    exact lv_if_lt hx hb hd ht (fun _ => kk _ hL) (fun z => absurd ((iI_lt hrx hry).mpr hq) z)
  · refine T.pl ?_ (kf (by omega))
    intro p e R s m args below meth c hC hf hl H lsA locs cells slots Q hP hS hL hcl hsl hz kk
    obtain ⟨hx, hb, hml, hown, hts, hrt, hlk, hnm, hK, hro, hB, hRS⟩ := hC
    exact lv_if_lt hx hb hd ht (fun z => (hq ((iI_lt hrx hry).mp z)).elim) (fun _ => kk _ hL)
theorem T.icmp_ge {x y : Int} {off : Int} (tgt : Nat) (hd : decode M.2.1 pc = .ok (.if_icmp .ge off, 3)) (hrx : rg x) (hry : rg y) (kt : y ≤ x → T E d M tgt ls st h Q) (kf : x < y → T E d M (pc + 3) ls st h Q) (ht : (pc : Int) + off = (tgt : Int) := by decide) : T E d M pc ls (.int (iI y) :: .int (iI x) :: st) h Q := by
  by_cases hq : y ≤ x
  · refine T.pl ?_ (kt hq)
    intro p e R s m args below meth c hC hf hl H lsA locs cells slots Q hP hS hL hcl hsl hz kk
    obtain ⟨hx, hb, hml, hown, hts, hrt, hlk, hnm, hK, hro, hB, hRS⟩ := hC
    exact lv_icmp_ge hx hb hd ht (fun _ => kk _ hL) (fun z => absurd ((iI_le hry hrx).mpr hq) z)
  · refine T.pl ?_ (kf (by omega))
    intro p e R s m args below meth c hC hf hl H lsA locs cells slots Q hP hS hL hcl hsl hz kk
    obtain ⟨hx, hb, hml, hown, hts, hrt, hlk, hnm, hK, hro, hB, hRS⟩ := hC
    exact lv_icmp_ge hx hb hd ht (fun z => (hq ((iI_le hry hrx).mp z)).elim) (fun _ => kk _ hL)
theorem T.if_ge {x : Int} {off : Int} (tgt : Nat) (hd : decode M.2.1 pc = .ok (.ifCond .ge off, 3)) (hrx : rg x) (kt : 0 ≤ x → T E d M tgt ls st h Q) (kf : x < 0 → T E d M (pc + 3) ls st h Q) (ht : (pc : Int) + off = (tgt : Int) := by decide) : T E d M pc ls (.int (iI x) :: st) h Q := by
  have hry : rg 0 := by unfold rg; omega
  by_cases hq : 0 ≤ x
  · refine T.pl ?_ (kt hq)
    intro p e R s m args below meth c hC hf hl H lsA locs cells slots Q hP hS hL hcl hsl hz kk
    obtain ⟨hx, hb, hml, hown, hts, hrt, hlk, hnm, hK, hro, hB, hRS⟩ := hC
    exact lv_if_ge hx hb hd ht (fun _ => kk _ hL) (fun z => absurd ((iI_le hry hrx).mpr hq) z)
  · refine T.pl ?_ (kf (by omega))
    intro p e R s m args below meth c hC hf hl H lsA locs cells slots Q hP hS hL hcl hsl hz kk
    obtain ⟨hx, hb, hml, hown, hts, hrt, hlk, hnm, hK, hro, hB, hRS⟩ := hC
    exact lv_if_ge hx hb hd ht (fun z => (hq ((iI_le hry hrx).mp z)).elim) (fun _ => kk _ hL)
theorem T.icmp_gt {x y : Int} {off : Int} (tgt : Nat) (hd : decode M.2.1 pc = .ok (.if_icmp .gt off, 3)) (hrx : rg x) (hry : rg y) (kt : y < x → T E d M tgt ls st h Q) (kf : x ≤ y → T E d M (pc + 3) ls st h Q) (ht : (pc : Int) + off = (tgt : Int) := by decide) : T E d M pc ls (.int (iI y) :: .int (iI x) :: st) h Q := by
  by_cases hq : y < x
  · refine T.pl ?_ (kt hq)
    intro p e R s m args below meth c hC hf hl H lsA locs cells slots Q hP hS hL hcl hsl hz kk
    obtain ⟨hx, hb, hml, hown, hts, hrt, hlk, hnm, hK, hro, hB, hRS⟩ := hC
    exact lv_icmp_gt hx hb hd ht (fun _ => kk _ hL) (fun z => absurd ((iI_lt hry hrx).mpr hq) z)
  · refine T.pl ?_ (kf (by omega))
    intro p e R s m args below meth c hC hf hl H lsA locs cells slots Q hP hS hL hcl hsl hz kk
    obtain ⟨hx, hb, hml, hown, hts, hrt, hlk, hnm, hK, hro, hB, hRS⟩ := hC
    exact lv_icmp_gt hx hb hd ht (fun z => (hq ((iI_lt hry hrx).mp z)).elim) (fun _ => kk _ hL)
theorem T.if_gt {x : Int} {off : Int} (tgt : Nat) (hd : decode M.2.1 pc = .ok (.ifCond .gt off, 3)) (hrx : rg x) (kt : 0 < x → T E d M tgt ls st h Q) (kf : x ≤ 0 → T E d M (pc + 3) ls st h Q) (ht : (pc : Int) + off = (tgt : Int) := by decide) : T E d M pc ls (.int (iI x) :: st) h Q := by
  have hry : rg 0 := by unfold rg; omega
  by_cases hq : 0 < x
  · refine T.pl ?_ (kt hq)
    intro p e R s m args below meth c hC hf hl H lsA locs cells slots Q hP hS hL hcl hsl hz kk
    obtain ⟨hx, hb, hml, hown, hts, hrt, hlk, hnm, hK, hro, hB, hRS⟩ := hC
    exact lv_if_gt hx hb hd ht (fun _ => kk _ hL) (fun z => absurd ((iI_lt hry hrx).mpr hq) z)
  · refine T.pl ?_ (kf (by omega))
    intro p e R s m args below meth c hC hf hl H lsA locs cells slots Q hP hS hL hcl hsl hz kk
    obtain ⟨hx, hb, hml, hown, hts, hrt, hlk, hnm, hK, hro, hB, hRS⟩ := hC
    exact lv_if_gt hx hb hd ht (fun z => (hq ((iI_lt hry hrx).mp z)).elim) (fun _ => kk _ hL)
theorem T.icmp_le {x y : Int} {off : Int} (tgt : Nat) (hd : decode M.2.1 pc = .ok (.if_icmp .le off, 3)) (hrx : rg x) (hry : rg y) (kt : x ≤ y → T E d M tgt ls st h Q) (kf : y < x → T E d M (pc + 3) ls st h Q) (ht : (pc : Int) + off = (tgt : Int) := by decide) : T E d M pc ls (.int (iI y) :: .int (iI x) :: st) h Q := by
  by_cases hq : x ≤ y
  · refine T.pl ?_ (kt hq)
    intro p e R s m args below meth c hC hf hl H lsA locs cells slots Q hP hS hL hcl hsl hz kk
    obtain ⟨hx, hb, hml, hown, hts, hrt, hlk, hnm, hK, hro, hB, hRS⟩ := hC
    exact lv_icmp_le hx hb hd ht (fun _ => kk _ hL) (fun z => absurd ((iI_le hrx hry).mpr hq) z)
  · refine T.pl ?_ (kf (by omega))
    intro p e R s m args below meth c hC hf hl H lsA locs cells slots Q hP hS hL hcl hsl hz kk
    obtain ⟨hx, hb, hml, hown, hts, hrt, hlk, hnm, hK, hro, hB, hRS⟩ := hC
    exact lv_icmp_le hx hb hd ht (fun z => (hq ((iI_le hrx hry).mp z)).elim) (fun _ => kk _ hL)
theorem T.if_le {x : Int} {off : Int} (tgt : Nat) (hd : decode M.2.1 pc = .ok (.ifCond .le off, 3)) (hrx : rg x) (kt : x ≤ 0 → T E d M tgt ls st h Q) (kf : 0 < x → T E d M (pc + 3) ls st h Q) (ht : (pc : Int) + off = (tgt : Int) := by decide) : T E d M pc ls (.int (iI x) :: st) h Q := by
  have hry : rg 0 := by unfold rg; omega
  by_cases hq : x ≤ 0
  · refine T.pl ?_ (kt hq)
    intro p e R s m args below meth c hC hf hl H lsA locs cells slots Q hP hS hL hcl hsl hz kk
    obtain ⟨hx, hb, hml, hown, hts, hrt, hlk, hnm, hK, hro, hB, hRS⟩ := hC
    exact lv_if_le hx hb hd ht (fun _ => kk _ hL) (fun z => absurd ((iI_le hrx hry).mpr hq) z)
  · refine T.pl ?_ (kf (by omega))
    intro p e R s m args below meth c hC hf hl H lsA locs cells slots Q hP hS hL hcl hsl hz kk
    obtain ⟨hx, hb, hml, hown, hts, hrt, hlk, hnm, hK, hro, hB, hRS⟩ := hC
    exact lv_if_le hx hb hd ht (fun z => (hq ((iI_le hrx hry).mp z)).elim) (fun _ => kk _ hL)
theorem T.icmp_eq {x y : Int} {off : Int} (tgt : Nat) (hd : decode M.2.1 pc = .ok (.if_icmp .eq off, 3)) (hrx : rg x) (hry : rg y) (kt : x = y → T E d M tgt ls st h Q) (kf : x ≠ y → T E d M (pc + 3) ls st h Q) (ht : (pc : Int) + off = (tgt : Int) := by decide) : T E d M pc ls (.int (iI y) :: .int (iI x) :: st) h Q := by
  by_cases hq : x = y
  · refine T.pl ?_ (kt hq)
    intro p e R s m args below meth c hC hf hl H lsA locs cells slots Q hP hS hL hcl hsl hz kk
    obtain ⟨hx, hb, hml, hown, hts, hrt, hlk, hnm, hK, hro, hB, hRS⟩ := hC
    exact lv_icmp_eq hx hb hd ht (fun _ => kk _ hL) (fun z => absurd ((iI_eq hrx hry).mpr hq) z)
  · refine T.pl ?_ (kf (hq))
    intro p e R s m args below meth c hC hf hl H lsA locs cells slots Q hP hS hL hcl hsl hz kk
    obtain ⟨hx, hb, hml, hown, hts, hrt, hlk, hnm, hK, hro, hB, hRS⟩ := hC
    exact lv_icmp_eq hx hb hd ht (fun z => (hq ((iI_eq hrx hry).mp z)).elim) (fun _ => kk _ hL)
theorem T.if_eq {x : Int} {off : Int} (tgt : Nat) (hd : decode M.2.1 pc = .ok (.ifCond .eq off, 3)) (hrx : rg x) (kt : x = 0 → T E d M tgt ls st h Q) (kf : x ≠ 0 → T E d M (pc + 3) ls st h Q) (ht : (pc : Int) + off = (tgt : Int) := by decide) : T E d M pc ls (.int (iI x) :: st) h Q := by
  have hry : rg 0 := by unfold rg; omega
  by_cases hq : x = 0
  · refine T.pl ?_ (kt hq)
    intro p e R s m args below meth c hC hf hl H lsA locs cells slots Q hP hS hL hcl hsl hz kk
    obtain ⟨hx, hb, hml, hown, hts, hrt, hlk, hnm, hK, hro, hB, hRS⟩ := hC
    exact lv_if_eq hx hb hd ht (fun _ => kk _ hL) (fun z => absurd ((iI_eq hrx hry).mpr hq) z)
  · refine T.pl ?_ (kf (hq))
    intro p e R s m args below meth c hC hf hl H lsA locs cells slots Q hP hS hL hcl hsl hz kk
    obtain ⟨hx, hb, hml, hown, hts, hrt, hlk, hnm, hK, hro, hB, hRS⟩ := hC
    exact lv_if_eq hx hb hd ht (fun z => (hq ((iI_eq hrx hry).mp z)).elim) (fun _ => kk _ hL)
theorem T.icmp_ne {x y : Int} {off : Int} (tgt : Nat) (hd : decode M.2.1 pc = .ok (.if_icmp .ne off, 3)) (hrx : rg x) (hry : rg y) (kt : x ≠ y → T E d M tgt ls st h Q) (kf : x = y → T E d M (pc + 3) ls st h Q) (ht : (pc : Int) + off = (tgt : Int) := by decide) : T E d M pc ls (.int (iI y) :: .int (iI x) :: st) h Q := by
  by_cases hq : x ≠ y
  · refine T.pl ?_ (kt hq)
    intro p e R s m args below meth c hC hf hl H lsA locs cells slots Q hP hS hL hcl hsl hz kk
    obtain ⟨hx, hb, hml, hown, hts, hrt, hlk, hnm, hK, hro, hB, hRS⟩ := hC
    exact lv_icmp_ne hx hb hd ht (fun _ => kk _ hL) (fun z => (hq ((iI_eq hrx hry).mp z)).elim)
  · refine T.pl ?_ (kf (by omega))
    intro p e R s m args below meth c hC hf hl H lsA locs cells slots Q hP hS hL hcl hsl hz kk
    obtain ⟨hx, hb, hml, hown, hts, hrt, hlk, hnm, hK, hro, hB, hRS⟩ := hC
    exact lv_icmp_ne hx hb hd ht (fun z => (hq (fun z1 => z ((iI_eq hrx hry).mpr z1))).elim) (fun _ => kk _ hL)
theorem T.if_ne {x : Int} {off : Int} (tgt : Nat) (hd : decode M.2.1 pc = .ok (.ifCond .ne off, 3)) (hrx : rg x) (kt : x ≠ 0 → T E d M tgt ls st h Q) (kf : x = 0 → T E d M (pc + 3) ls st h Q) (ht : (pc : Int) + off = (tgt : Int) := by decide) : T E d M pc ls (.int (iI x) :: st) h Q := by
  have hry : rg 0 := by unfold rg; omega
  by_cases hq : x ≠ 0
  · refine T.pl ?_ (kt hq)
    intro p e R s m args below meth c hC hf hl H lsA locs cells slots Q hP hS hL hcl hsl hz kk
    obtain ⟨hx, hb, hml, hown, hts, hrt, hlk, hnm, hK, hro, hB, hRS⟩ := hC
    exact lv_if_ne hx hb hd ht (fun _ => kk _ hL) (fun z => (hq ((iI_eq hrx hry).mp z)).elim)
  · refine T.pl ?_ (kf (by omega))
    intro p e R s m args below meth c hC hf hl H lsA locs cells slots Q hP hS hL hcl hsl hz kk
    obtain ⟨hx, hb, hml, hown, hts, hrt, hlk, hnm, hK, hro, hB, hRS⟩ := hC
    exact lv_if_ne hx hb hd ht (fun z => (hq (fun z1 => z ((iI_eq hrx hry).mpr z1))).elim) (fun _ => kk _ hL)
theorem T.ifB_eq {p : Prop} {off : Int} (tgt : Nat) (hd : decode M.2.1 pc = .ok (.ifCond .eq off, 3)) (kt : ¬ p → T E d M tgt ls st h Q) (kf : p → T E d M (pc + 3) ls st h Q) (ht : (pc : Int) + off = (tgt : Int) := by decide) : T E d M pc ls (.int (iI (bZ p)) :: st) h Q := by
  refine T.if_eq tgt hd (by rcases bZ_01 p with h0 | h0 <;> rw [h0] <;> unfold rg <;> decide) (fun hz => kt ?_) (fun hz => kf ?_) ht
  · intro hp; rw [bZ_t hp] at hz; cases hz
  · apply Classical.byContradiction; intro hp; exact hz (bZ_f hp)
theorem T.ifB_ne {p : Prop} {off : Int} (tgt : Nat) (hd : decode M.2.1 pc = .ok (.ifCond .ne off, 3)) (kt : p → T E d M tgt ls st h Q) (kf : ¬ p → T E d M (pc + 3) ls st h Q) (ht : (pc : Int) + off = (tgt : Int) := by decide) : T E d M pc ls (.int (iI (bZ p)) :: st) h Q := by
  refine T.if_ne tgt hd (by rcases bZ_01 p with h0 | h0 <;> rw [h0] <;> unfold rg <;> decide) (fun hz => kt ?_) (fun hz => kf ?_) ht
  · apply Classical.byContradiction; intro hp; exact hz (bZ_f hp)
  · intro hp; rw [bZ_t hp] at hz; cases hz
theorem lg_cmpI {x y : Int} (hx : rl x) (hy : rl y) : lg_cmp (lI x) (lI y) = iI (if x < y then -1 else if x = y then 0 else 1) := by
  unfold lg_cmp
  by_cases h1 : x < y
  · have a1 := (lI_lt hx hy).mpr h1
    have a2 : ¬ lI y < lI x := fun z => by have := (lI_lt hy hx).mp z; omega
    have a3 : ¬ lI x = lI y := fun z => by have := (lI_eq hx hy).mp z; omega
    simp [a2, a3, h1]; try rfl
  · by_cases h2 : x = y
    · subst h2
      have a1 : ¬ lI x < lI x := fun z => by have := (lI_lt hx hx).mp z; omega
      simp [a1]; try rfl
    · have a1 : ¬ lI x < lI y := fun z => by have := (lI_lt hx hy).mp z; omega
      have a2 := (lI_lt hy hx).mpr (by omega : y < x)
      have a3 : ¬ lI x = lI y := fun z => h2 ((lI_eq hx hy).mp z)
      simp [a2, a3, h1, h2]; try rfl
theorem T.lcmp {x y : Int} (hd : decode M.2.1 pc = .ok (.lcmp, 1)) (hrx : rl x) (hry : rl y) (k : T E d M (pc + 1) ls (.int (iI (if x < y then -1 else if x = y then 0 else 1)) :: st) h Q) : T E d M pc ls (.long (lI y) :: .long (lI x) :: st) h Q := by
  refine T.pl ?_ k
  intro p e R s m args below meth c hC hf hl H lsA locs cells slots Q hP hS hL hcl hsl hz kk
  obtain ⟨hx, hb, hml, hown, hts, hrt, hlk, hnm, hK, hro, hB, hRS⟩ := hC
  refine W.lcmp hx hb hd ?_
  rw [lg_cmpI hrx hry]
  exact kk _ hL
theorem T.lcmp_lt {x y : Int} {off : Int} (tgt : Nat) (hd : decode M.2.1 pc = .ok (.lcmp, 1)) (hd2 : decode M.2.1 (pc + 1) = .ok (.ifCond .lt off, 3)) (hrx : rl x) (hry : rl y) (kt : x < y → T E d M tgt ls st h Q) (kf : y ≤ x → T E d M (pc + 1 + 3) ls st h Q) (ht : ((pc + 1 : Nat) : Int) + off = (tgt : Int) := by decide) : T E d M pc ls (.long (lI y) :: .long (lI x) :: st) h Q := by
  refine T.lcmp hd hrx hry ?_
  refine T.if_lt tgt hd2 (by unfold rg; split <;> (try split) <;> omega) (fun hz => kt ?_) (fun hz => kf ?_) ht <;> (split at hz <;> (try split at hz) <;> omega)
theorem T.lcmp_ge {x y : Int} {off : Int} (tgt : Nat) (hd : decode M.2.1 pc = .ok (.lcmp, 1)) (hd2 : decode M.2.1 (pc + 1) = .ok (.ifCond .ge off, 3)) (hrx : rl x) (hry : rl y) (kt : y ≤ x → T E d M tgt ls st h Q) (kf : x < y → T E d M (pc + 1 + 3) ls st h Q) (ht : ((pc + 1 : Nat) : Int) + off = (tgt : Int) := by decide) : T E d M pc ls (.long (lI y) :: .long (lI x) :: st) h Q := by
  refine T.lcmp hd hrx hry ?_
  refine T.if_ge tgt hd2 (by unfold rg; split <;> (try split) <;> omega) (fun hz => kt ?_) (fun hz => kf ?_) ht <;> (split at hz <;> (try split at hz) <;> omega)
theorem T.lcmp_gt {x y : Int} {off : Int} (tgt : Nat) (hd : decode M.2.1 pc = .ok (.lcmp, 1)) (hd2 : decode M.2.1 (pc + 1) = .ok (.ifCond .gt off, 3)) (hrx : rl x) (hry : rl y) (kt : y < x → T E d M tgt ls st h Q) (kf : x ≤ y → T E d M (pc + 1 + 3) ls st h Q) (ht : ((pc + 1 : Nat) : Int) + off = (tgt : Int) := by decide) : T E d M pc ls (.long (lI y) :: .long (lI x) :: st) h Q := by
  refine T.lcmp hd hrx hry ?_
  refine T.if_gt tgt hd2 (by unfold rg; split <;> (try split) <;> omega) (fun hz => kt ?_) (fun hz => kf ?_) ht <;> (split at hz <;> (try split at hz) <;> omega)
theorem T.lcmp_le {x y : Int} {off : Int} (tgt : Nat) (hd : decode M.2.1 pc = .ok (.lcmp, 1)) (hd2 : decode M.2.1 (pc + 1) = .ok (.ifCond .le off, 3)) (hrx : rl x) (hry : rl y) (kt : x ≤ y → T E d M tgt ls st h Q) (kf : y < x → T E d M (pc + 1 + 3) ls st h Q) (ht : ((pc + 1 : Nat) : Int) + off = (tgt : Int) := by decide) : T E d M pc ls (.long (lI y) :: .long (lI x) :: st) h Q := by
  refine T.lcmp hd hrx hry ?_
  refine T.if_le tgt hd2 (by unfold rg; split <;> (try split) <;> omega) (fun hz => kt ?_) (fun hz => kf ?_) ht <;> (split at hz <;> (try split at hz) <;> omega)
theorem T.lcmp_eq {x y : Int} {off : Int} (tgt : Nat) (hd : decode M.2.1 pc = .ok (.lcmp, 1)) (hd2 : decode M.2.1 (pc + 1) = .ok (.ifCond .eq off, 3)) (hrx : rl x) (hry : rl y) (kt : x = y → T E d M tgt ls st h Q) (kf : x ≠ y → T E d M (pc + 1 + 3) ls st h Q) (ht : ((pc + 1 : Nat) : Int) + off = (tgt : Int) := by decide) : T E d M pc ls (.long (lI y) :: .long (lI x) :: st) h Q := by
  refine T.lcmp hd hrx hry ?_
  refine T.if_eq tgt hd2 (by unfold rg; split <;> (try split) <;> omega) (fun hz => kt ?_) (fun hz => kf ?_) ht <;> (split at hz <;> (try split at hz) <;> omega)
theorem T.lcmp_ne {x y : Int} {off : Int} (tgt : Nat) (hd : decode M.2.1 pc = .ok (.lcmp, 1)) (hd2 : decode M.2.1 (pc + 1) = .ok (.ifCond .ne off, 3)) (hrx : rl x) (hry : rl y) (kt : x ≠ y → T E d M tgt ls st h Q) (kf : x = y → T E d M (pc + 1 + 3) ls st h Q) (ht : ((pc + 1 : Nat) : Int) + off = (tgt : Int) := by decide) : T E d M pc ls (.long (lI y) :: .long (lI x) :: st) h Q := by
  refine T.lcmp hd hrx hry ?_
  refine T.if_ne tgt hd2 (by unfold rg; split <;> (try split) <;> omega) (fun hz => kt ?_) (fun hz => kf ?_) ht <;> (split at hz <;> (try split at hz) <;> omega)
theorem T.goto {off : Int} (tgt : Nat) (hd : decode M.2.1 pc = .ok (.goto off, 3)) (k : T E d M tgt ls st h Q) (ht : (pc : Int) + off = (tgt : Int) := by decide) : T E d M pc ls st h Q := by
  refine T.pl ?_ k
  intro p e R s m args below meth c hC hf hl H lsA locs cells slots Q hP hS hL hcl hsl hz kk
  obtain ⟨hx, hb, hml, hown, hts, hrt, hlk, hnm, hK, hro, hB, hRS⟩ := hC
  exact lv_goto hx hb hd ht (kk _ hL)
theorem T.tableIn {dflt lo hi : Int} {offs : Array Int} {len : Nat} {x off : Int} (tgt : Nat) (hd : decode M.2.1 pc = .ok (.tableswitch dflt lo hi offs, len)) (hrx : rg x) (h1 : lo ≤ x) (h2 : x ≤ hi) (ho : offs[(x - lo).toNat]? = some off) (k : T E d M tgt ls st h Q) (ht : (pc : Int) + off = (tgt : Int) := by decide) : T E d M pc ls (.int (iI x) :: st) h Q := by
  refine T.pl ?_ k
  intro p e R s m args below meth c hC hf hl H lsA locs cells slots Q hP hS hL hcl hsl hz kk
  obtain ⟨hx, hb, hml, hown, hts, hrt, hlk, hnm, hK, hro, hB, hRS⟩ := hC
  exact lv_tableIn hx hb hd (by rw [iI_toInt hrx]; omega) (by rw [iI_toInt hrx]; omega) (by rw [iI_toInt hrx]; exact ho) ht (kk _ hL)
theorem T.tableOut {dflt lo hi : Int} {offs : Array Int} {len : Nat} {x : Int} (tgt : Nat) (hd : decode M.2.1 pc = .ok (.tableswitch dflt lo hi offs, len)) (hrx : rg x) (h1 : x < lo ∨ hi < x) (k : T E d M tgt ls st h Q) (ht : (pc : Int) + dflt = (tgt : Int) := by decide) : T E d M pc ls (.int (iI x) :: st) h Q := by
  refine T.pl ?_ k
  intro p e R s m args below meth c hC hf hl H lsA locs cells slots Q hP hS hL hcl hsl hz kk
  obtain ⟨hx, hb, hml, hown, hts, hrt, hlk, hnm, hK, hro, hB, hRS⟩ := hC
  exact lv_tableOut hx hb hd (by rw [iI_toInt hrx]; exact h1) ht (kk _ hL)
theorem T.lookup {dflt : Int} {ps : Array (Int × Int)} {len : Nat} {x off : Int} (tgt : Nat) (hd : decode M.2.1 pc = .ok (.lookupswitch dflt ps, len)) (hrx : rg x) (ho : Op.lookupswitch.offset ps.toList dflt x = off) (k : T E d M tgt ls st h Q) (hp : (ps.toList.zip (ps.toList.drop 1)).all (fun (a, next) => a.1 < next.1) = true := by decide) (ht : (pc : Int) + off = (tgt : Int) := by decide) : T E d M pc ls (.int (iI x) :: st) h Q := by
  refine T.pl ?_ k
  intro p e R s m args below meth c hC hf hl H lsA locs cells slots Q hP hS hL hcl hsl hz kk
  obtain ⟨hx, hb, hml, hown, hts, hrt, hlk, hnm, hK, hro, hB, hRS⟩ := hC
  exact lv_lookup hx hb hd hp (by rw [iI_toInt hrx]; exact ho) ht (kk _ hL)
end ROWS
