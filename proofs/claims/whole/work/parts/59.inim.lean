def okMd (E : Ev) (G : Nat → va_E) (p : Nat) : Prop := G (E.2.2.1 + p) = .inr (9, [.int 0, .ref (E.2.2.1 + (p + 1)), .int 0, .ref (E.2.2.1 + (p + 2)), .ref (E.2.2.1 + (p + 3)), .int 0, .ref (E.2.2.1 + (p + 4)), .ref (E.2.2.1 + (p + 5)), .ref (E.2.2.1 + (p + 6)), .ref (E.2.2.1 + (p + 7)), .ref (E.2.2.1 + (p + 8)), .ref (E.2.2.1 + (p + 9)), .ref (E.2.2.1 + (p + 10)), .ref (E.2.2.1 + (p + 11)), .ref (E.2.2.1 + (p + 12)), .long 0, .ref (E.2.2.1 + (p + 13)), .ref (E.2.2.1 + (p + 14)), .ref (E.2.2.1 + (p + 15)), .ref (E.2.2.1 + (p + 16)), .ref (E.2.2.1 + (p + 17)), .long 0, .ref (E.2.2.1 + (p + 18)), .ref (E.2.2.1 + (p + 19)), .int 0, .ref (E.2.2.1 + (p + 20)), .ref (E.2.2.1 + (p + 21)), .ref (E.2.2.1 + (p + 22)), .ref (E.2.2.1 + (p + 23))]) ∧ G (E.2.2.1 + (p + 1)) = ints E 64 (fun _ => 0) ∧ G (E.2.2.1 + (p + 2)) = ints E 48 (fun _ => 0) ∧ G (E.2.2.1 + (p + 3)) = ints E 40 (fun _ => 0) ∧ G (E.2.2.1 + (p + 4)) = ints E 24 (fun _ => 0) ∧ G (E.2.2.1 + (p + 5)) = ints E 2 (fun _ => 0) ∧ G (E.2.2.1 + (p + 6)) = ints E 12 (fun _ => 0) ∧ G (E.2.2.1 + (p + 7)) = longs E 8 (fun _ => 0) ∧ G (E.2.2.1 + (p + 8)) = longs E 8 (fun _ => 0) ∧ G (E.2.2.1 + (p + 9)) = ints E 8 (fun _ => 0) ∧ G (E.2.2.1 + (p + 10)) = ints E 8 (fun _ => 0) ∧ G (E.2.2.1 + (p + 11)) = longs E 8 (fun _ => 0) ∧ G (E.2.2.1 + (p + 12)) = longs E 8 (fun _ => 0) ∧ G (E.2.2.1 + (p + 13)) = bools E 8 (fun _ => 0) ∧ G (E.2.2.1 + (p + 14)) = ints E 8 (fun _ => 0) ∧ G (E.2.2.1 + (p + 15)) = longs E 8 (fun _ => 0) ∧ G (E.2.2.1 + (p + 16)) = ints E 8 (fun _ => 0) ∧ G (E.2.2.1 + (p + 17)) = ints E 3 (fun _ => 0) ∧ G (E.2.2.1 + (p + 18)) = ints E 3 (fun _ => 0) ∧ G (E.2.2.1 + (p + 19)) = longs E 2400 (fun _ => 0) ∧ G (E.2.2.1 + (p + 20)) = ints E 140 (fun _ => 0) ∧ G (E.2.2.1 + (p + 21)) = ints E 4 (fun x => if x < 4 then -1 else 0) ∧ G (E.2.2.1 + (p + 22)) = ints E 4 (fun _ => 0) ∧ G (E.2.2.1 + (p + 23)) = ints E 96 (fun _ => 0)
section CON2
variable {E : Ev} {d : Nat} {M : MI} {pc : Nat} {ls : List (Option Value)} {st : List Value} {Q : Option Value → Hp → Prop} {G : Nat → va_E} {n s a : Nat}
theorem T.zo {N0 : Nat} {e : va_E} {n : Nat} {x : Int} (hd : decode M.2.1 pc = .ok (.newarray .int, 2)) (hi : x = n) (hn : n < 100000) (ha : a ≠ E.2.2.1 + N0) (kt : T E d M (pc + 2) ls (.ref (E.2.2.1 + N0) :: st) (N0 + 1, s + n, va_up (va_up G (E.2.2.1 + N0) (ints E n (fun _ => 0))) a e) Q) : T E d M pc ls (.int (iI x) :: st) (N0, s, va_up G a e) Q := by
  refine T.newa (n := n) (t0 := 0) (a0 := (n, .inl (fun _ => iI 0))) hd ac_int rfl (fun _ => rfl) hi (by omega) (by show n * 4 ≤ _; omega) (fun cA U h => h) ?_
  show T E d M (pc + 2) ls _ (N0 + 1, s + n, va_up (va_up G a e) (E.2.2.1 + N0) (ints E n (fun _ => 0))) Q
  rw [vu_cm _ _ _ ha]; exact kt
theorem T.iset {N0 i : Nat} {g : Nat → Int} {x v : Int} (hd : decode M.2.1 pc = .ok (.iastore, 1)) (ha : E.2.2.1 ≤ a ∧ a < E.2.2.1 + n) (hi : x = i) (hN : i < N0) (hn : N0 < 100000) (kt : T E d M (pc + 1) ls st (n, s, va_up G a (ints E N0 (upd1 g i v))) Q) : T E d M pc ls (.int (iI v) :: .int (iI x) :: .ref a :: st) (n, s, va_up G a (ints E N0 g)) Q := by
  refine T.iast hd ha (va_up_self _ _ _) hi hN (by omega) ?_
  show T E d M (pc + 1) ls st (n, s, va_up (va_up G a _) a _) Q
  rw [vu_up, ← ints_up]
  exact kt
end CON2
set_option maxHeartbeats 4000000 in
set_option maxRecDepth 100000 in
theorem i_Md (E : Ev) (G : Nat → va_E) (p s : Nat) (h : okMd E G p) : CT E 1 mX9_init [.ref (E.2.2.1 + p)] (p + 1, s, va_up G (E.2.2.1 + p) (.inr (9, [.int 0, .null, .int 0, .null, .null, .int 0, .null, .null, .null, .null, .null, .null, .null, .null, .null, .long 0, .null, .null, .null, .null, .null, .long 0, .null, .null, .int 0, .null, .null, .null, .null]))) none (p + 24, s + 2920, G) := by
  refine CT.go okX9_init (Nat.le_of_ble_eq_true rfl) ?_
  show T E 1 mX9_init 0 [some (.ref (E.2.2.1 + p)), none] [] (p + 1, s, va_up G (E.2.2.1 + p) (.inr (9, [.int 0, .null, .int 0, .null, .null, .int 0, .null, .null, .null, .null, .null, .null, .null, .null, .null, .long 0, .null, .null, .null, .null, .null, .long 0, .null, .null, .int 0, .null, .null, .null, .null]))) _
  obtain ⟨h1, h2, h3, h4, h5, h6, h7, h8, h9, h10, h11, h12, h13, h14, h15, h16, h17, h18, h19, h20, h21, h22, h23, h24⟩ := h
  refine T.aload_n dX9_init_0 rfl ?_
  refine T.objI dX9_init_1 lo_X9_1 ow_i ow_c (by omega) (Nat.le_of_ble_eq_true rfl) ?_
  refine T.aload_n dX9_init_4 rfl ?_
  refine T.bipush dX9_init_5 ?_
  refine T.zi (n := 64) dX9_init_7 rfl (by decide) (by rw [va_up_ne _ _ (by omega)]; exact h2) ?_
  refine T.pF (fs' := [.int 0, .ref (E.2.2.1 + (p + 1)), .int 0, .null, .null, .int 0, .null, .null, .null, .null, .null, .null, .null, .null, .null, .long 0, .null, .null, .null, .null, .null, .long 0, .null, .null, .int 0, .null, .null, .null, .null]) dX9_init_9 fp_X9_7 rfl (by omega) rfl rfl (Nat.le_of_ble_eq_true rfl) rfl ?_
  refine T.aload_n dX9_init_12 rfl ?_
  refine T.bipush dX9_init_13 ?_
  refine T.zi (n := 48) dX9_init_15 rfl (by decide) (by rw [va_up_ne _ _ (by omega)]; exact h3) ?_
  refine T.pF (fs' := [.int 0, .ref (E.2.2.1 + (p + 1)), .int 0, .ref (E.2.2.1 + (p + 2)), .null, .int 0, .null, .null, .null, .null, .null, .null, .null, .null, .null, .long 0, .null, .null, .null, .null, .null, .long 0, .null, .null, .int 0, .null, .null, .null, .null]) dX9_init_17 fp_X9_13 rfl (by omega) rfl rfl (Nat.le_of_ble_eq_true rfl) rfl ?_
  refine T.aload_n dX9_init_20 rfl ?_
  refine T.bipush dX9_init_21 ?_
  refine T.zi (n := 40) dX9_init_23 rfl (by decide) (by rw [va_up_ne _ _ (by omega)]; exact h4) ?_
  refine T.pF (fs' := [.int 0, .ref (E.2.2.1 + (p + 1)), .int 0, .ref (E.2.2.1 + (p + 2)), .ref (E.2.2.1 + (p + 3)), .int 0, .null, .null, .null, .null, .null, .null, .null, .null, .null, .long 0, .null, .null, .null, .null, .null, .long 0, .null, .null, .int 0, .null, .null, .null, .null]) dX9_init_25 fp_X9_16 rfl (by omega) rfl rfl (Nat.le_of_ble_eq_true rfl) rfl ?_
  refine T.aload_n dX9_init_28 rfl ?_
  refine T.bipush dX9_init_29 ?_
  refine T.zi (n := 24) dX9_init_31 rfl (by decide) (by rw [va_up_ne _ _ (by omega)]; exact h5) ?_
  refine T.pF (fs' := [.int 0, .ref (E.2.2.1 + (p + 1)), .int 0, .ref (E.2.2.1 + (p + 2)), .ref (E.2.2.1 + (p + 3)), .int 0, .ref (E.2.2.1 + (p + 4)), .null, .null, .null, .null, .null, .null, .null, .null, .long 0, .null, .null, .null, .null, .null, .long 0, .null, .null, .int 0, .null, .null, .null, .null]) dX9_init_33 fp_X9_19 rfl (by omega) rfl rfl (Nat.le_of_ble_eq_true rfl) rfl ?_
  refine T.aload_n dX9_init_36 rfl ?_
  refine T.iconst dX9_init_37 ?_
  refine T.zi (n := 2) dX9_init_38 rfl (by decide) (by rw [va_up_ne _ _ (by omega)]; exact h6) ?_
  refine T.pF (fs' := [.int 0, .ref (E.2.2.1 + (p + 1)), .int 0, .ref (E.2.2.1 + (p + 2)), .ref (E.2.2.1 + (p + 3)), .int 0, .ref (E.2.2.1 + (p + 4)), .ref (E.2.2.1 + (p + 5)), .null, .null, .null, .null, .null, .null, .null, .long 0, .null, .null, .null, .null, .null, .long 0, .null, .null, .int 0, .null, .null, .null, .null]) dX9_init_40 fp_X9_22 rfl (by omega) rfl rfl (Nat.le_of_ble_eq_true rfl) rfl ?_
  refine T.aload_n dX9_init_43 rfl ?_
  refine T.bipush dX9_init_44 ?_
  refine T.zi (n := 12) dX9_init_46 rfl (by decide) (by rw [va_up_ne _ _ (by omega)]; exact h7) ?_
  refine T.pF (fs' := [.int 0, .ref (E.2.2.1 + (p + 1)), .int 0, .ref (E.2.2.1 + (p + 2)), .ref (E.2.2.1 + (p + 3)), .int 0, .ref (E.2.2.1 + (p + 4)), .ref (E.2.2.1 + (p + 5)), .ref (E.2.2.1 + (p + 6)), .null, .null, .null, .null, .null, .null, .long 0, .null, .null, .null, .null, .null, .long 0, .null, .null, .int 0, .null, .null, .null, .null]) dX9_init_48 fp_X9_25 rfl (by omega) rfl rfl (Nat.le_of_ble_eq_true rfl) rfl ?_
  refine T.aload_n dX9_init_51 rfl ?_
  refine T.bipush dX9_init_52 ?_
  refine T.zl (n := 8) dX9_init_54 rfl (by decide) (by rw [va_up_ne _ _ (by omega)]; exact h8) ?_
  refine T.pF (fs' := [.int 0, .ref (E.2.2.1 + (p + 1)), .int 0, .ref (E.2.2.1 + (p + 2)), .ref (E.2.2.1 + (p + 3)), .int 0, .ref (E.2.2.1 + (p + 4)), .ref (E.2.2.1 + (p + 5)), .ref (E.2.2.1 + (p + 6)), .ref (E.2.2.1 + (p + 7)), .null, .null, .null, .null, .null, .long 0, .null, .null, .null, .null, .null, .long 0, .null, .null, .int 0, .null, .null, .null, .null]) dX9_init_56 fp_X9_28 rfl (by omega) rfl rfl (Nat.le_of_ble_eq_true rfl) rfl ?_
  refine T.aload_n dX9_init_59 rfl ?_
  refine T.bipush dX9_init_60 ?_
  refine T.zl (n := 8) dX9_init_62 rfl (by decide) (by rw [va_up_ne _ _ (by omega)]; exact h9) ?_
  refine T.pF (fs' := [.int 0, .ref (E.2.2.1 + (p + 1)), .int 0, .ref (E.2.2.1 + (p + 2)), .ref (E.2.2.1 + (p + 3)), .int 0, .ref (E.2.2.1 + (p + 4)), .ref (E.2.2.1 + (p + 5)), .ref (E.2.2.1 + (p + 6)), .ref (E.2.2.1 + (p + 7)), .ref (E.2.2.1 + (p + 8)), .null, .null, .null, .null, .long 0, .null, .null, .null, .null, .null, .long 0, .null, .null, .int 0, .null, .null, .null, .null]) dX9_init_64 fp_X9_32 rfl (by omega) rfl rfl (Nat.le_of_ble_eq_true rfl) rfl ?_
  refine T.aload_n dX9_init_67 rfl ?_
  refine T.bipush dX9_init_68 ?_
  refine T.zi (n := 8) dX9_init_70 rfl (by decide) (by rw [va_up_ne _ _ (by omega)]; exact h10) ?_
  refine T.pF (fs' := [.int 0, .ref (E.2.2.1 + (p + 1)), .int 0, .ref (E.2.2.1 + (p + 2)), .ref (E.2.2.1 + (p + 3)), .int 0, .ref (E.2.2.1 + (p + 4)), .ref (E.2.2.1 + (p + 5)), .ref (E.2.2.1 + (p + 6)), .ref (E.2.2.1 + (p + 7)), .ref (E.2.2.1 + (p + 8)), .ref (E.2.2.1 + (p + 9)), .null, .null, .null, .long 0, .null, .null, .null, .null, .null, .long 0, .null, .null, .int 0, .null, .null, .null, .null]) dX9_init_72 fp_X9_35 rfl (by omega) rfl rfl (Nat.le_of_ble_eq_true rfl) rfl ?_
  refine T.aload_n dX9_init_75 rfl ?_
  refine T.bipush dX9_init_76 ?_
  refine T.zi (n := 8) dX9_init_78 rfl (by decide) (by rw [va_up_ne _ _ (by omega)]; exact h11) ?_
  refine T.pF (fs' := [.int 0, .ref (E.2.2.1 + (p + 1)), .int 0, .ref (E.2.2.1 + (p + 2)), .ref (E.2.2.1 + (p + 3)), .int 0, .ref (E.2.2.1 + (p + 4)), .ref (E.2.2.1 + (p + 5)), .ref (E.2.2.1 + (p + 6)), .ref (E.2.2.1 + (p + 7)), .ref (E.2.2.1 + (p + 8)), .ref (E.2.2.1 + (p + 9)), .ref (E.2.2.1 + (p + 10)), .null, .null, .long 0, .null, .null, .null, .null, .null, .long 0, .null, .null, .int 0, .null, .null, .null, .null]) dX9_init_80 fp_X9_38 rfl (by omega) rfl rfl (Nat.le_of_ble_eq_true rfl) rfl ?_
  refine T.aload_n dX9_init_83 rfl ?_
  refine T.bipush dX9_init_84 ?_
  refine T.zl (n := 8) dX9_init_86 rfl (by decide) (by rw [va_up_ne _ _ (by omega)]; exact h12) ?_
  refine T.pF (fs' := [.int 0, .ref (E.2.2.1 + (p + 1)), .int 0, .ref (E.2.2.1 + (p + 2)), .ref (E.2.2.1 + (p + 3)), .int 0, .ref (E.2.2.1 + (p + 4)), .ref (E.2.2.1 + (p + 5)), .ref (E.2.2.1 + (p + 6)), .ref (E.2.2.1 + (p + 7)), .ref (E.2.2.1 + (p + 8)), .ref (E.2.2.1 + (p + 9)), .ref (E.2.2.1 + (p + 10)), .ref (E.2.2.1 + (p + 11)), .null, .long 0, .null, .null, .null, .null, .null, .long 0, .null, .null, .int 0, .null, .null, .null, .null]) dX9_init_88 fp_X9_41 rfl (by omega) rfl rfl (Nat.le_of_ble_eq_true rfl) rfl ?_
  refine T.aload_n dX9_init_91 rfl ?_
  refine T.bipush dX9_init_92 ?_
  refine T.zl (n := 8) dX9_init_94 rfl (by decide) (by rw [va_up_ne _ _ (by omega)]; exact h13) ?_
  refine T.pF (fs' := [.int 0, .ref (E.2.2.1 + (p + 1)), .int 0, .ref (E.2.2.1 + (p + 2)), .ref (E.2.2.1 + (p + 3)), .int 0, .ref (E.2.2.1 + (p + 4)), .ref (E.2.2.1 + (p + 5)), .ref (E.2.2.1 + (p + 6)), .ref (E.2.2.1 + (p + 7)), .ref (E.2.2.1 + (p + 8)), .ref (E.2.2.1 + (p + 9)), .ref (E.2.2.1 + (p + 10)), .ref (E.2.2.1 + (p + 11)), .ref (E.2.2.1 + (p + 12)), .long 0, .null, .null, .null, .null, .null, .long 0, .null, .null, .int 0, .null, .null, .null, .null]) dX9_init_96 fp_X9_44 rfl (by omega) rfl rfl (Nat.le_of_ble_eq_true rfl) rfl ?_
  refine T.aload_n dX9_init_99 rfl ?_
  refine T.bipush dX9_init_100 ?_
  refine T.zz (n := 8) dX9_init_102 rfl (by decide) (by rw [va_up_ne _ _ (by omega)]; exact h14) ?_
  refine T.pF (fs' := [.int 0, .ref (E.2.2.1 + (p + 1)), .int 0, .ref (E.2.2.1 + (p + 2)), .ref (E.2.2.1 + (p + 3)), .int 0, .ref (E.2.2.1 + (p + 4)), .ref (E.2.2.1 + (p + 5)), .ref (E.2.2.1 + (p + 6)), .ref (E.2.2.1 + (p + 7)), .ref (E.2.2.1 + (p + 8)), .ref (E.2.2.1 + (p + 9)), .ref (E.2.2.1 + (p + 10)), .ref (E.2.2.1 + (p + 11)), .ref (E.2.2.1 + (p + 12)), .long 0, .ref (E.2.2.1 + (p + 13)), .null, .null, .null, .null, .long 0, .null, .null, .int 0, .null, .null, .null, .null]) dX9_init_104 fp_X9_47 rfl (by omega) rfl rfl (Nat.le_of_ble_eq_true rfl) rfl ?_
  refine T.aload_n dX9_init_107 rfl ?_
  refine T.bipush dX9_init_108 ?_
  refine T.zi (n := 8) dX9_init_110 rfl (by decide) (by rw [va_up_ne _ _ (by omega)]; exact h15) ?_
  refine T.pF (fs' := [.int 0, .ref (E.2.2.1 + (p + 1)), .int 0, .ref (E.2.2.1 + (p + 2)), .ref (E.2.2.1 + (p + 3)), .int 0, .ref (E.2.2.1 + (p + 4)), .ref (E.2.2.1 + (p + 5)), .ref (E.2.2.1 + (p + 6)), .ref (E.2.2.1 + (p + 7)), .ref (E.2.2.1 + (p + 8)), .ref (E.2.2.1 + (p + 9)), .ref (E.2.2.1 + (p + 10)), .ref (E.2.2.1 + (p + 11)), .ref (E.2.2.1 + (p + 12)), .long 0, .ref (E.2.2.1 + (p + 13)), .ref (E.2.2.1 + (p + 14)), .null, .null, .null, .long 0, .null, .null, .int 0, .null, .null, .null, .null]) dX9_init_112 fp_X9_51 rfl (by omega) rfl rfl (Nat.le_of_ble_eq_true rfl) rfl ?_
  refine T.aload_n dX9_init_115 rfl ?_
  refine T.bipush dX9_init_116 ?_
  refine T.zl (n := 8) dX9_init_118 rfl (by decide) (by rw [va_up_ne _ _ (by omega)]; exact h16) ?_
  refine T.pF (fs' := [.int 0, .ref (E.2.2.1 + (p + 1)), .int 0, .ref (E.2.2.1 + (p + 2)), .ref (E.2.2.1 + (p + 3)), .int 0, .ref (E.2.2.1 + (p + 4)), .ref (E.2.2.1 + (p + 5)), .ref (E.2.2.1 + (p + 6)), .ref (E.2.2.1 + (p + 7)), .ref (E.2.2.1 + (p + 8)), .ref (E.2.2.1 + (p + 9)), .ref (E.2.2.1 + (p + 10)), .ref (E.2.2.1 + (p + 11)), .ref (E.2.2.1 + (p + 12)), .long 0, .ref (E.2.2.1 + (p + 13)), .ref (E.2.2.1 + (p + 14)), .ref (E.2.2.1 + (p + 15)), .null, .null, .long 0, .null, .null, .int 0, .null, .null, .null, .null]) dX9_init_120 fp_X9_54 rfl (by omega) rfl rfl (Nat.le_of_ble_eq_true rfl) rfl ?_
  refine T.aload_n dX9_init_123 rfl ?_
  refine T.bipush dX9_init_124 ?_
  refine T.zi (n := 8) dX9_init_126 rfl (by decide) (by rw [va_up_ne _ _ (by omega)]; exact h17) ?_
  refine T.pF (fs' := [.int 0, .ref (E.2.2.1 + (p + 1)), .int 0, .ref (E.2.2.1 + (p + 2)), .ref (E.2.2.1 + (p + 3)), .int 0, .ref (E.2.2.1 + (p + 4)), .ref (E.2.2.1 + (p + 5)), .ref (E.2.2.1 + (p + 6)), .ref (E.2.2.1 + (p + 7)), .ref (E.2.2.1 + (p + 8)), .ref (E.2.2.1 + (p + 9)), .ref (E.2.2.1 + (p + 10)), .ref (E.2.2.1 + (p + 11)), .ref (E.2.2.1 + (p + 12)), .long 0, .ref (E.2.2.1 + (p + 13)), .ref (E.2.2.1 + (p + 14)), .ref (E.2.2.1 + (p + 15)), .ref (E.2.2.1 + (p + 16)), .null, .long 0, .null, .null, .int 0, .null, .null, .null, .null]) dX9_init_128 fp_X9_57 rfl (by omega) rfl rfl (Nat.le_of_ble_eq_true rfl) rfl ?_
  refine T.aload_n dX9_init_131 rfl ?_
  refine T.iconst dX9_init_132 ?_
  refine T.zi (n := 3) dX9_init_133 rfl (by decide) (by rw [va_up_ne _ _ (by omega)]; exact h18) ?_
  refine T.pF (fs' := [.int 0, .ref (E.2.2.1 + (p + 1)), .int 0, .ref (E.2.2.1 + (p + 2)), .ref (E.2.2.1 + (p + 3)), .int 0, .ref (E.2.2.1 + (p + 4)), .ref (E.2.2.1 + (p + 5)), .ref (E.2.2.1 + (p + 6)), .ref (E.2.2.1 + (p + 7)), .ref (E.2.2.1 + (p + 8)), .ref (E.2.2.1 + (p + 9)), .ref (E.2.2.1 + (p + 10)), .ref (E.2.2.1 + (p + 11)), .ref (E.2.2.1 + (p + 12)), .long 0, .ref (E.2.2.1 + (p + 13)), .ref (E.2.2.1 + (p + 14)), .ref (E.2.2.1 + (p + 15)), .ref (E.2.2.1 + (p + 16)), .ref (E.2.2.1 + (p + 17)), .long 0, .null, .null, .int 0, .null, .null, .null, .null]) dX9_init_135 fp_X9_60 rfl (by omega) rfl rfl (Nat.le_of_ble_eq_true rfl) rfl ?_
  refine T.aload_n dX9_init_138 rfl ?_
  refine T.iconst dX9_init_139 ?_
  refine T.zi (n := 3) dX9_init_140 rfl (by decide) (by rw [va_up_ne _ _ (by omega)]; exact h19) ?_
  refine T.pF (fs' := [.int 0, .ref (E.2.2.1 + (p + 1)), .int 0, .ref (E.2.2.1 + (p + 2)), .ref (E.2.2.1 + (p + 3)), .int 0, .ref (E.2.2.1 + (p + 4)), .ref (E.2.2.1 + (p + 5)), .ref (E.2.2.1 + (p + 6)), .ref (E.2.2.1 + (p + 7)), .ref (E.2.2.1 + (p + 8)), .ref (E.2.2.1 + (p + 9)), .ref (E.2.2.1 + (p + 10)), .ref (E.2.2.1 + (p + 11)), .ref (E.2.2.1 + (p + 12)), .long 0, .ref (E.2.2.1 + (p + 13)), .ref (E.2.2.1 + (p + 14)), .ref (E.2.2.1 + (p + 15)), .ref (E.2.2.1 + (p + 16)), .ref (E.2.2.1 + (p + 17)), .long 0, .ref (E.2.2.1 + (p + 18)), .null, .int 0, .null, .null, .null, .null]) dX9_init_142 fp_X9_63 rfl (by omega) rfl rfl (Nat.le_of_ble_eq_true rfl) rfl ?_
  refine T.aload_n dX9_init_145 rfl ?_
  refine T.sipush dX9_init_146 ?_
  refine T.zl (n := 2400) dX9_init_149 rfl (by decide) (by rw [va_up_ne _ _ (by omega)]; exact h20) ?_
  refine T.pF (fs' := [.int 0, .ref (E.2.2.1 + (p + 1)), .int 0, .ref (E.2.2.1 + (p + 2)), .ref (E.2.2.1 + (p + 3)), .int 0, .ref (E.2.2.1 + (p + 4)), .ref (E.2.2.1 + (p + 5)), .ref (E.2.2.1 + (p + 6)), .ref (E.2.2.1 + (p + 7)), .ref (E.2.2.1 + (p + 8)), .ref (E.2.2.1 + (p + 9)), .ref (E.2.2.1 + (p + 10)), .ref (E.2.2.1 + (p + 11)), .ref (E.2.2.1 + (p + 12)), .long 0, .ref (E.2.2.1 + (p + 13)), .ref (E.2.2.1 + (p + 14)), .ref (E.2.2.1 + (p + 15)), .ref (E.2.2.1 + (p + 16)), .ref (E.2.2.1 + (p + 17)), .long 0, .ref (E.2.2.1 + (p + 18)), .ref (E.2.2.1 + (p + 19)), .int 0, .null, .null, .null, .null]) dX9_init_151 fp_X9_66 rfl (by omega) rfl rfl (Nat.le_of_ble_eq_true rfl) rfl ?_
  refine T.aload_n dX9_init_154 rfl ?_
  refine T.sipush dX9_init_155 ?_
  refine T.zi (n := 140) dX9_init_158 rfl (by decide) (by rw [va_up_ne _ _ (by omega)]; exact h21) ?_
  refine T.pF (fs' := [.int 0, .ref (E.2.2.1 + (p + 1)), .int 0, .ref (E.2.2.1 + (p + 2)), .ref (E.2.2.1 + (p + 3)), .int 0, .ref (E.2.2.1 + (p + 4)), .ref (E.2.2.1 + (p + 5)), .ref (E.2.2.1 + (p + 6)), .ref (E.2.2.1 + (p + 7)), .ref (E.2.2.1 + (p + 8)), .ref (E.2.2.1 + (p + 9)), .ref (E.2.2.1 + (p + 10)), .ref (E.2.2.1 + (p + 11)), .ref (E.2.2.1 + (p + 12)), .long 0, .ref (E.2.2.1 + (p + 13)), .ref (E.2.2.1 + (p + 14)), .ref (E.2.2.1 + (p + 15)), .ref (E.2.2.1 + (p + 16)), .ref (E.2.2.1 + (p + 17)), .long 0, .ref (E.2.2.1 + (p + 18)), .ref (E.2.2.1 + (p + 19)), .int 0, .ref (E.2.2.1 + (p + 20)), .null, .null, .null]) dX9_init_160 fp_X9_69 rfl (by omega) rfl rfl (Nat.le_of_ble_eq_true rfl) rfl ?_
  refine T.aload_n dX9_init_163 rfl ?_
  refine T.iconst dX9_init_164 ?_
  refine T.zo (n := 4) dX9_init_165 rfl (by decide) (by omega) ?_
  refine T.pF (fs' := [.int 0, .ref (E.2.2.1 + (p + 1)), .int 0, .ref (E.2.2.1 + (p + 2)), .ref (E.2.2.1 + (p + 3)), .int 0, .ref (E.2.2.1 + (p + 4)), .ref (E.2.2.1 + (p + 5)), .ref (E.2.2.1 + (p + 6)), .ref (E.2.2.1 + (p + 7)), .ref (E.2.2.1 + (p + 8)), .ref (E.2.2.1 + (p + 9)), .ref (E.2.2.1 + (p + 10)), .ref (E.2.2.1 + (p + 11)), .ref (E.2.2.1 + (p + 12)), .long 0, .ref (E.2.2.1 + (p + 13)), .ref (E.2.2.1 + (p + 14)), .ref (E.2.2.1 + (p + 15)), .ref (E.2.2.1 + (p + 16)), .ref (E.2.2.1 + (p + 17)), .long 0, .ref (E.2.2.1 + (p + 18)), .ref (E.2.2.1 + (p + 19)), .int 0, .ref (E.2.2.1 + (p + 20)), .ref (E.2.2.1 + (p + 21)), .null, .null]) dX9_init_167 fp_X9_72 rfl (by omega) rfl rfl (Nat.le_of_ble_eq_true rfl) rfl ?_
  refine T.aload_n dX9_init_170 rfl ?_
  refine T.iconst dX9_init_171 ?_
  refine T.zi (n := 4) dX9_init_172 rfl (by decide) (by rw [va_up_ne _ _ (by omega)]; rw [va_up_ne _ _ (by omega)]; exact h23) ?_
  refine T.pF (fs' := [.int 0, .ref (E.2.2.1 + (p + 1)), .int 0, .ref (E.2.2.1 + (p + 2)), .ref (E.2.2.1 + (p + 3)), .int 0, .ref (E.2.2.1 + (p + 4)), .ref (E.2.2.1 + (p + 5)), .ref (E.2.2.1 + (p + 6)), .ref (E.2.2.1 + (p + 7)), .ref (E.2.2.1 + (p + 8)), .ref (E.2.2.1 + (p + 9)), .ref (E.2.2.1 + (p + 10)), .ref (E.2.2.1 + (p + 11)), .ref (E.2.2.1 + (p + 12)), .long 0, .ref (E.2.2.1 + (p + 13)), .ref (E.2.2.1 + (p + 14)), .ref (E.2.2.1 + (p + 15)), .ref (E.2.2.1 + (p + 16)), .ref (E.2.2.1 + (p + 17)), .long 0, .ref (E.2.2.1 + (p + 18)), .ref (E.2.2.1 + (p + 19)), .int 0, .ref (E.2.2.1 + (p + 20)), .ref (E.2.2.1 + (p + 21)), .ref (E.2.2.1 + (p + 22)), .null]) dX9_init_174 fp_X9_75 rfl (by omega) rfl rfl (Nat.le_of_ble_eq_true rfl) rfl ?_
  refine T.aload_n dX9_init_177 rfl ?_
  refine T.bipush dX9_init_178 ?_
  refine T.zi (n := 96) dX9_init_180 rfl (by decide) (by rw [va_up_ne _ _ (by omega)]; rw [va_up_ne _ _ (by omega)]; exact h24) ?_
  refine T.pF (fs' := [.int 0, .ref (E.2.2.1 + (p + 1)), .int 0, .ref (E.2.2.1 + (p + 2)), .ref (E.2.2.1 + (p + 3)), .int 0, .ref (E.2.2.1 + (p + 4)), .ref (E.2.2.1 + (p + 5)), .ref (E.2.2.1 + (p + 6)), .ref (E.2.2.1 + (p + 7)), .ref (E.2.2.1 + (p + 8)), .ref (E.2.2.1 + (p + 9)), .ref (E.2.2.1 + (p + 10)), .ref (E.2.2.1 + (p + 11)), .ref (E.2.2.1 + (p + 12)), .long 0, .ref (E.2.2.1 + (p + 13)), .ref (E.2.2.1 + (p + 14)), .ref (E.2.2.1 + (p + 15)), .ref (E.2.2.1 + (p + 16)), .ref (E.2.2.1 + (p + 17)), .long 0, .ref (E.2.2.1 + (p + 18)), .ref (E.2.2.1 + (p + 19)), .int 0, .ref (E.2.2.1 + (p + 20)), .ref (E.2.2.1 + (p + 21)), .ref (E.2.2.1 + (p + 22)), .ref (E.2.2.1 + (p + 23))]) dX9_init_182 fp_X9_78 rfl (by omega) rfl rfl (Nat.le_of_ble_eq_true rfl) rfl ?_
  refine T.iconst dX9_init_185 ?_
  refine T.istore_n (ls' := [some (.ref (E.2.2.1 + p)), some (.int (iI (0)))]) dX9_init_186 rfl ?_
  rw [vu_id (show (va_up G (E.2.2.1 + (p + 21)) (ints E 4 (fun _ => 0))) (E.2.2.1 + p) = _ from by rw [va_up_ne _ _ (by omega)]; exact h1)]
  refine T.iload_n dX9_init_187 rfl ?_
  refine T.iconst dX9_init_188 ?_
  refine T.icmp_ge 205 dX9_init_189 (by unfold rg; omega) (by unfold rg; omega) (fun c1 => absurd c1 (by omega)) (fun c1 => ?_)
  refine T.aload_n dX9_init_192 rfl ?_
  refine T.gG (v := .ref (E.2.2.1 + (p + 21))) dX9_init_193 fo_X9_72 (by omega) ((va_up_ne _ _ (by omega)).trans h1) rfl ?_
  refine T.iload_n dX9_init_196 rfl ?_
  refine T.iconst dX9_init_197 ?_
  refine T.iset (i := 0) dX9_init_198 (by omega) rfl (by decide) (by decide) ?_
  refine T.iinc (ls' := [some (.ref (E.2.2.1 + p)), some (.int (iI (0 + 1)))]) dX9_init_199 rfl rfl ?_
  refine T.goto 187 dX9_init_202 ?_
  refine T.iload_n dX9_init_187 rfl ?_
  refine T.iconst dX9_init_188 ?_
  refine T.icmp_ge 205 dX9_init_189 (by unfold rg; omega) (by unfold rg; omega) (fun c1 => absurd c1 (by omega)) (fun c1 => ?_)
  refine T.aload_n dX9_init_192 rfl ?_
  refine T.gG (v := .ref (E.2.2.1 + (p + 21))) dX9_init_193 fo_X9_72 (by omega) ((va_up_ne _ _ (by omega)).trans h1) rfl ?_
  refine T.iload_n dX9_init_196 rfl ?_
  refine T.iconst dX9_init_197 ?_
  refine T.iset (i := 1) dX9_init_198 (by omega) rfl (by decide) (by decide) ?_
  refine T.iinc (ls' := [some (.ref (E.2.2.1 + p)), some (.int (iI (0 + 1 + 1)))]) dX9_init_199 rfl rfl ?_
  refine T.goto 187 dX9_init_202 ?_
  refine T.iload_n dX9_init_187 rfl ?_
  refine T.iconst dX9_init_188 ?_
  refine T.icmp_ge 205 dX9_init_189 (by unfold rg; omega) (by unfold rg; omega) (fun c1 => absurd c1 (by omega)) (fun c1 => ?_)
  refine T.aload_n dX9_init_192 rfl ?_
  refine T.gG (v := .ref (E.2.2.1 + (p + 21))) dX9_init_193 fo_X9_72 (by omega) ((va_up_ne _ _ (by omega)).trans h1) rfl ?_
  refine T.iload_n dX9_init_196 rfl ?_
  refine T.iconst dX9_init_197 ?_
  refine T.iset (i := 2) dX9_init_198 (by omega) rfl (by decide) (by decide) ?_
  refine T.iinc (ls' := [some (.ref (E.2.2.1 + p)), some (.int (iI (0 + 1 + 1 + 1)))]) dX9_init_199 rfl rfl ?_
  refine T.goto 187 dX9_init_202 ?_
  refine T.iload_n dX9_init_187 rfl ?_
  refine T.iconst dX9_init_188 ?_
  refine T.icmp_ge 205 dX9_init_189 (by unfold rg; omega) (by unfold rg; omega) (fun c1 => absurd c1 (by omega)) (fun c1 => ?_)
  refine T.aload_n dX9_init_192 rfl ?_
  refine T.gG (v := .ref (E.2.2.1 + (p + 21))) dX9_init_193 fo_X9_72 (by omega) ((va_up_ne _ _ (by omega)).trans h1) rfl ?_
  refine T.iload_n dX9_init_196 rfl ?_
  refine T.iconst dX9_init_197 ?_
  refine T.iset (i := 3) dX9_init_198 (by omega) rfl (by decide) (by decide) ?_
  refine T.iinc (ls' := [some (.ref (E.2.2.1 + p)), some (.int (iI (0 + 1 + 1 + 1 + 1)))]) dX9_init_199 rfl rfl ?_
  refine T.goto 187 dX9_init_202 ?_
  refine T.iload_n dX9_init_187 rfl ?_
  refine T.iconst dX9_init_188 ?_
  refine T.icmp_ge 205 dX9_init_189 (by unfold rg; omega) (by unfold rg; omega) (fun c1 => ?_) (fun c1 => absurd c1 (by omega))
  have hfin : (upd1 (upd1 (upd1 (upd1 (fun _ => 0) 0 (-1)) 1 (-1)) 2 (-1)) 3 (-1)) = (fun x => if x < 4 then -1 else 0) := by
    funext x
    unfold upd1
    by_cases e0 : x = 0
    · subst e0; rfl
    · by_cases e1 : x = 1
      · subst e1; rfl
      · by_cases e2 : x = 2
        · subst e2; rfl
        · by_cases e3 : x = 3
          · subst e3; rfl
          · simp [e0, e1, e2, e3, show ¬ x < 4 by omega]
  rw [hfin]
  exact T.vret dX9_init_205 ⟨rfl, Prod.ext rfl (Prod.ext rfl (vu_id h22))⟩
-- ===== the first memory =====
theorem inR_0 (k x : Nat) : inR k x 0 := by
  unfold inR
  split <;> first | trivial | decide | (split <;> first | trivial | decide)
def pz : Mem := fun k _ _ x => match k with
  | 7 => if x = 2 ∨ x = 3 then -1 else 0
  | 10 => if x = 3 then -1 else 0
  | 56 => if x < 4 then -1 else 0
  | _ => 0
theorem pz_inv : Inv pz := by
  intro k j i x
  unfold pz
  split
  · match x with
    | 0 => show 0 ≤ _ ∧ _ ≤ (299 : Int); decide
    | 1 => show 0 ≤ _ ∧ _ ≤ (9999 : Int); decide
    | 2 => show -1 ≤ _ ∧ _ ≤ (7 : Int); decide
    | 3 => show -1 ≤ _ ∧ _ ≤ (7 : Int); decide
    | x + 4 => exact trivial
  · match x with
    | 0 => exact trivial
    | 1 => exact trivial
    | 2 => show 0 ≤ _ ∧ _ ≤ (299 : Int); decide
    | 3 => show -1 ≤ _ ∧ _ ≤ (11 : Int); decide
    | x + 4 => exact trivial
  · show -1 ≤ _ ∧ _ ≤ (2 : Int)
    split <;> omega
  · exact inR_0 k x
theorem lz {E : Ev} {k j i q : Nat} (h : okC k j i) (hq : q = aO k j i) : lay E pz (E.2.2.1 + q) = shape E k j i (pz k j i) := by
  subst hq; exact lay_at h
theorem lz_lw {E : Ev} {q : Nat} (h : q < 22) : okLw E (lay E pz) (lwB q) := ⟨lz (ok8 h) rfl, lz (ok9 h) rfl⟩
theorem lwB_b {b i : Nat} (hb : b < 8) (hi : i < 2) : lwB (2 * b + i) = bkB b + 32 + 2 * i := by
  unfold lwB
  rw [if_pos (by omega), show (2 * b + i) / 2 = b by omega, show (2 * b + i) % 2 = i by omega]
theorem lz_bk {E : Ev} {b : Nat} (hb : b < 8) : okBk E (lay E pz) (bkB b) := by
  refine ⟨lz (ok1 hb) rfl, lz (ok2 hb) rfl, lz (ok3 hb) rfl, ?_, fun i hi => ⟨(lz (E := E) (ok5 hb hi) rfl).trans (by show (Sum.inr (2, [Value.int (iI 0), Value.int (iI 0), Value.ref (E.2.2.1 + (bkB b + 5 + 2 * i))]) : va_E) = _; rw [show bkB b + 5 + 2 * i = bkB b + 4 + 2 * i + 1 by omega]), lz (ok6 hb hi) (by show bkB b + 4 + 2 * i + 1 = bkB b + 5 + 2 * i; omega)⟩, fun i hi => lz (ok7 hb hi) rfl, fun i hi => ?_⟩
  · exact ⟨fun x => ar E 8 (2 * b + x) 0, lz (ok4 hb) rfl, fun x hx => by show E.2.2.1 + lwB (2 * b + x) = _; rw [lwB_b hb hx]⟩
  · rw [← lwB_b hb hi]
    exact lz_lw (by omega)
theorem bkB_c (j : Nat) : bkB (2 + j) = coB j + 1 := by
  unfold bkB
  rw [if_neg (by omega), show 2 + j - 2 = j by omega]
theorem lwB_c (j : Nat) : lwB (16 + j) = coB j + 37 := by
  unfold lwB
  rw [if_neg (by omega), show 16 + j - 16 = j by omega]
theorem lz_co {E : Ev} {j : Nat} (hj : j < 6) : okCo E (lay E pz) (coB j) := by
  refine ⟨?_, ?_, ?_, lz (ok11 hj) rfl, lz (ok12 hj) rfl, lz (ok13 hj) rfl, lz (ok14 hj) rfl, lz (ok15 hj) rfl, lz (ok16 hj) rfl, lz (ok17 hj) rfl, lz (ok18 hj) rfl, lz (ok19 hj) rfl⟩
  · have h := lz (E := E) (ok10 hj) (q := coB j) rfl
    have e1 : ar E 1 (2 + j) 0 = E.2.2.1 + (coB j + 1) := by show E.2.2.1 + bkB (2 + j) = _; rw [bkB_c]
    have e2 : ar E 8 (16 + j) 0 = E.2.2.1 + (coB j + 37) := by show E.2.2.1 + lwB (16 + j) = _; rw [lwB_c]
    rw [h]
    show _ = Sum.inr (1, [_, _, _, _, _, _, _, _, _, _, _, _, _, _])
    rw [← e1, ← e2]
    rfl
  · rw [← bkB_c]; exact lz_bk (by omega)
  · rw [← lwB_c]; exact lz_lw (by omega)
theorem lz_ws {E : Ev} : okWs E (lay E pz) 169 := by
  refine ⟨lz (k := 20) (j := 0) (i := 0) ok20 rfl, lz ok21 rfl, lz ok22 rfl, ?_, fun i hi => ?_⟩
  · rw [lz (E := E) (k := 23) (j := 0) (i := 0) (q := 169 + 3) ok23 rfl]
    show refs E 3 4 (fun x => ar E 10 (2 + x) 0) = _
    congr 1
    funext x
    show E.2.2.1 + coB (2 + x) = _
    unfold coB
    rw [if_neg (by omega)]
    omega
  · have h := lz_co (E := E) (j := 2 + i) (by omega)
    rw [show coB (2 + i) = 169 + 4 + 48 * i by unfold coB; rw [if_neg (by omega)]; omega] at h
    exact h
theorem lz_pd {E : Ev} : okPd E (lay E pz) 0 := by
  refine ⟨lz (k := 0) (j := 0) (i := 0) ok0 rfl, lz_bk (b := 0) (by decide), lz_bk (b := 1) (by decide), lz_co (j := 0) (by decide), lz_co (j := 1) (by decide), lz_ws, ⟨lz ok24 rfl, lz ok25 rfl⟩, ?_, fun i hi => ⟨(lz (E := E) (ok27 hi) (by show 0 + 368 + 2 * i = 368 + 2 * i; omega)).trans (by show (Sum.inr (5, [Value.int (iI 0), Value.int (iI 0), Value.ref (E.2.2.1 + (369 + 2 * i)), Value.int (iI 0)]) : va_E) = _; rw [show 369 + 2 * i = 0 + 368 + 2 * i + 1 by omega]), lz (ok28 hi) (by show 0 + 368 + 2 * i + 1 = 369 + 2 * i; omega)⟩⟩
  rw [lz (E := E) (k := 26) (j := 0) (i := 0) (q := 0 + 367) ok26 rfl]
  have hf : (fun x => ar E 27 x 0) = (fun x => E.2.2.1 + (0 + 368 + 2 * x)) := by
    funext x
    show E.2.2.1 + (368 + 2 * x) = _
    omega
  show refs E 7 4 (fun x => ar E 27 x 0) = _
  rw [hf]
theorem lz_md {E : Ev} : okMd E (lay E pz) 376 := ⟨lz (k := 29) (j := 0) (i := 0) ok29 rfl, lz (k := 31) (j := 0) (i := 0) ok31 rfl, lz (k := 33) (j := 0) (i := 0) ok33 rfl, lz (k := 34) (j := 0) (i := 0) ok34 rfl, lz (k := 36) (j := 0) (i := 0) ok36 rfl, lz (k := 37) (j := 0) (i := 0) ok37 rfl, lz (k := 38) (j := 0) (i := 0) ok38 rfl, lz (k := 39) (j := 0) (i := 0) ok39 rfl, lz (k := 40) (j := 0) (i := 0) ok40 rfl, lz (k := 41) (j := 0) (i := 0) ok41 rfl, lz (k := 42) (j := 0) (i := 0) ok42 rfl, lz (k := 43) (j := 0) (i := 0) ok43 rfl, lz (k := 44) (j := 0) (i := 0) ok44 rfl, lz (k := 46) (j := 0) (i := 0) ok46 rfl, lz (k := 47) (j := 0) (i := 0) ok47 rfl, lz (k := 48) (j := 0) (i := 0) ok48 rfl, lz (k := 49) (j := 0) (i := 0) ok49 rfl, lz (k := 50) (j := 0) (i := 0) ok50 rfl, lz (k := 52) (j := 0) (i := 0) ok52 rfl, lz (k := 53) (j := 0) (i := 0) ok53 rfl, lz (k := 55) (j := 0) (i := 0) ok55 rfl, lz (k := 56) (j := 0) (i := 0) ok56 rfl, lz (k := 57) (j := 0) (i := 0) ok57 rfl, lz (k := 58) (j := 0) (i := 0) ok58 rfl⟩
