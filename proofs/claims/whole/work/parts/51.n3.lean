abbrev AD : Type := Nat × Nat × Nat × Nat
def leT (j : Nat) : Int := [0, -1, 0, 0, 0, 0].getD j 0
def moT (j : Nat) : Int := [1, 5, 1, 299, 99, 299].getD j 0
def ltT (j : Nat) : Int := [99, 116, 115, 120, 112, 100, 104, 117, 111, 108].getD j 0
def RO (B : Nat) (ad : AD) (s : State) : Prop :=
  va_Z "PaidDebts" "LEAST_TRAIT" "[I" (.ref ad.1) (fun q => B ≤ q) s s.heap ∧ va_T .int ad.1 6 (fun j => .int (iI (leT j))) (fun q => B ≤ q) s s.heap ∧
  va_Z "PaidDebts" "MOST_TRAIT" "[I" (.ref ad.2.1) (fun q => B ≤ q) s s.heap ∧ va_T .int ad.2.1 6 (fun j => .int (iI (moT j))) (fun q => B ≤ q) s s.heap ∧
  va_Z "java/lang/String" "COMPACT_STRINGS" "Z" (.int 1) (fun q => B ≤ q) s s.heap ∧ vk_R "PaidDebts$Tape" 19 "ctsxpdhuol" ad.2.2.1 s ∧
  va_O "java/lang/String" ad.2.2.1 (fun q => B ≤ q) s s.heap ∧ va_OF "java/lang/String" "coder" "B" (.int 0) ad.2.2.1 (fun q => B ≤ q) s s.heap ∧ va_OF "java/lang/String" "value" "[B" (.ref ad.2.2.2) ad.2.2.1 (fun q => B ≤ q) s s.heap ∧
  va_T .byte ad.2.2.2 10 (fun j => .int (iI (ltT j))) (fun q => B ≤ q) s s.heap
theorem RO.stays {B : Nat} {ad : AD} {s U : State} (h : RO B ad s) (hW : s.WarmedH U.vm) (hH : ∀ q : Nat, q < B → U.heap[q]? = s.heap[q]?) : RO B ad U := by
  obtain ⟨h1, h2, h3, h4, h5, h6, h7, h8, h9, h10⟩ := h
  have hq : ∀ a : Nat, a < s.heap.size → ¬ B ≤ a → U.heap[a]? = s.heap[a]? := fun a _ hb => hH a (by omega)
  exact ⟨(h1.moved hW.alike).kept hq, (h2.moved hW.alike).kept hq, (h3.moved hW.alike).kept hq, (h4.moved hW.alike).kept hq, (h5.moved hW.alike).kept hq, h6.warm hW, (h7.moved hW.alike).kept hq, (h8.moved hW.alike).kept hq, (h9.moved hW.alike).kept hq, (h10.moved hW.alike).kept hq⟩
section RORO
variable {E : Ev} {d : Nat} {M N : MI} {pc idx : Nat} {ls : List (Option Value)} {st st0 : List Value} {h : Hp} {Q : Option Value → Hp → Prop}
theorem T.gets {C n ds : String} {v : Value} (hd : decode M.2.1 pc = .ok (.getstatic idx, 3)) (hz : ∀ s, E.2.2.2.2 s → va_Z C n ds v (Aa E) s s.heap) (hl : Cond.fieldLink M.1.cls idx C n ds ∈ wA) (kt : T E d M (pc + 3) ls (v :: st) h Q) : T E d M pc ls st h Q := by
  refine T.pl ?_ kt
  intro p e R s m args below meth c hC hf hl2 H lsA locs cells slots Q hP hS hL hcl hsl hz2 kk
  obtain ⟨hx, hb, hml, hown, hts, hrt, hlk, hnm, hK, hro, hB, hRS⟩ := hC
  exact va_gets hx hb (hz s hro) hS hown (hts _ hl) (fun _ z => z) hd (kk _ hL)
theorem T.rti {t n i : Nat} {f : Nat → Int} {x : Int} (hd : decode M.2.1 pc = .ok (.iaload, 1)) (hz : ∀ s, E.2.2.2.2 s → va_T .int t n (fun j => .int (iI (f j))) (Aa E) s s.heap) (hi : x = i) (hN : i < n) (hn : n < 2147483648) (kt : T E d M (pc + 1) ls (.int (iI (f i)) :: st) h Q) : T E d M pc ls (.int (iI x) :: .ref t :: st) h Q := by
  refine T.pl ?_ kt
  intro p e R s m args below meth c hC hf hl2 H lsA locs cells slots Q hP hS hL hcl hsl hz2 kk
  obtain ⟨hx, hb, hml, hown, hts, hrt, hlk, hnm, hK, hro, hB, hRS⟩ := hC
  exact va_ti hx hb (hz s hro) hS (iI_in hi hN hn) (v := .int (iI (f i))) (by rw [iI_clamp hi (by omega)]) hd (kk _ hL)
theorem T.rtb {t n i : Nat} {f : Nat → Int} {x : Int} (hd : decode M.2.1 pc = .ok (.baload, 1)) (hz : ∀ s, E.2.2.2.2 s → va_T .byte t n (fun j => .int (iI (f j))) (Aa E) s s.heap) (hi : x = i) (hN : i < n) (hn : n < 2147483648) (kt : T E d M (pc + 1) ls (.int (iI (f i)) :: st) h Q) : T E d M pc ls (.int (iI x) :: .ref t :: st) h Q := by
  refine T.pl ?_ kt
  intro p e R s m args below meth c hC hf hl2 H lsA locs cells slots Q hP hS hL hcl hsl hz2 kk
  obtain ⟨hx, hb, hml, hown, hts, hrt, hlk, hnm, hK, hro, hB, hRS⟩ := hC
  exact va_tb hx hb (hz s hro) hS (iI_in hi hN hn) (v := .int (iI (f i))) (by rw [iI_clamp hi (by omega)]) hd (kk _ hL)
theorem T.rtlen {t n : Nat} {f : Nat → Value} {ty : FieldType} (hd : decode M.2.1 pc = .ok (.arraylength, 1)) (hz : ∀ s, E.2.2.2.2 s → va_T ty t n f (Aa E) s s.heap) (kt : T E d M (pc + 1) ls (.int (iI n) :: st) h Q) : T E d M pc ls (.ref t :: st) h Q := by
  refine T.pl ?_ kt
  intro p e R s m args below meth c hC hf hl2 H lsA locs cells slots Q hP hS hL hcl hsl hz2 kk
  obtain ⟨hx, hb, hml, hown, hts, hrt, hlk, hnm, hK, hro, hB, hRS⟩ := hC
  exact va_tlen hx hb (hz s hro) hS (v := iI n) (by unfold iI; exact (Int32.ofInt_eq_ofNat (n := n)).symm) hd (kk _ hL)
theorem T.rget {C n ds : String} {q : Nat} {v : Value} (hd : decode M.2.1 pc = .ok (.getfield idx, 3)) (hz : ∀ s, E.2.2.2.2 s → va_OF C n ds v q (Aa E) s s.heap) (hl : Cond.fieldLink M.1.cls idx C n ds ∈ wA) (kt : T E d M (pc + 3) ls (v :: st) h Q) : T E d M pc ls (.ref q :: st) h Q := by
  refine T.pl ?_ kt
  intro p e R s m args below meth c hC hf hl2 H lsA locs cells slots Q hP hS hL hcl hsl hz2 kk
  obtain ⟨hx, hb, hml, hown, hts, hrt, hlk, hnm, hK, hro, hB, hRS⟩ := hC
  exact vk_getf hx hb (hz s hro) hS hown (hts _ hl) (fun _ z => z) hd (kk _ hL)
theorem T.ldcS {tx : String} {q : Nat} (hd : decode M.2.1 pc = .ok (.ldc idx, 2)) (hz : ∀ s, E.2.2.2.2 s → vk_R M.1.cls idx tx q s) (kt : T E d M (pc + 2) ls (.ref q :: st) h Q) : T E d M pc ls st h Q := by
  refine T.pl ?_ kt
  intro p e R s m args below meth c hC hf hl2 H lsA locs cells slots Q hP hS hL hcl hsl hz2 kk
  obtain ⟨hx, hb, hml, hown, hts, hrt, hlk, hnm, hK, hro, hB, hRS⟩ := hC
  exact va_ldcS hx hb hown (hz s hro) hd (kk _ hL)
theorem T.nret {v : Int32} {ty : FieldType} (hd : decode M.2.1 pc = .ok (.ireturn, 1)) (hn : narrow ty (.int v) = .int v) (q : Q (some (.int v)) h) (hr : M.2.2.2 = some ty := by rfl) : T E d M pc ls [.int v] h Q := by
  refine ⟨_, _, ⟨Nat.le_refl _, Nat.le_refl _, ?_⟩, q⟩
  intro p e R s m args below meth c hC hf hl H lsA locs cells slots hP hS hL hc hs hz
  obtain ⟨hx, hb, hml, hown, hts, hrt, hlk, hnm, hK, hro, hB, hRS⟩ := hC
  simp only [Nat.sub_self, Nat.add_zero]
  exact W.zret hx hb (hrt.trans hr) hn (fun t ht hW => ⟨rfl, by rw [ht]; exact hP, hS.F ht⟩) hS.2.2 hd hlk
theorem T.cR1 {n dc b : Nat} {As : List Value} {v : Value} {h1 : Hp} (hd : decode M.2.1 pc = .ok (.invokevirtual idx, 3)) (hk : LKV M.1.cls idx N n) (hct : CT E dc N (.ref b :: As) h (some v) h1) (ho : ∀ s, E.2.2.2.2 s → va_O N.1.cls b (Aa E) s s.heap) (hdc : dc + 1 ≤ d) (hn : As.length = n) (hst : st0 = As.reverse ++ .ref b :: st) (hrm : (st.map fun v => v.category).sum ≤ 8) (kt : T E d M (pc + 3) ls (v :: st) h1 Q) : T E d M pc ls st0 h Q := by
  refine T.ph (h1 := h1) ⟨hct.1, hct.2.1, ?_⟩ kt
  intro p e R s m args below meth c hC hf hl H lsA locs cells slots QW hP hS hL hcl hsl hz kk
  obtain ⟨hx, hb, hml, hown, hts, hrt, hlk, hnm, hK, hro, hB, hRS⟩ := hC
  obtain ⟨hN, k1, k2, k3⟩ := hk
  refine W.sz (fun hsz => ?_)
  have hz2 := hP.ge hB hS
  have hz1 : H.size = E.2.2.1 + h.1 := by omega
  have hmx := hN.2.2.2.2
  have hp := preS_of (As := .ref b :: As) (args := args) hP hK hro hRS hB hS hz1
  have hrc : ∃ cell : Cell, H[b]? = some cell ∧ cell.vm.isStatics = false ∧ s.vm.findClass N.1.cls = some cell.cls := by
    obtain ⟨cell, h1, h2, h3, -⟩ := (ho s hro).kept hS.2.1
    exact ⟨cell, h1, h2, h3⟩
  refine call_go (r := some v) (va_runV (As := As) (rest := st) (Ts := wA) (C := N.1.cls) ⟨hx, hb, hml, hown, hts⟩ (hct.2.2 hRS) ⟨callB_of (Ts := wA) n hts (wM_good hN hts) rfl rfl rfl (hts _ hN.2.1) (hts _ k1) hN.2.2.1 ⟨by show dc + 1 ≤ R.frames; omega, by show 8 + (N.2.2.1 + 11) + 100 * dc ≤ R.locals; omega⟩, hts _ k2, hts _ k3⟩ ⟨hp.1, hrc, hp.2⟩ rfl hn hL.1 hst (lv_room hrm) hd ⟨hcl, hsl⟩) hS (fun H1 locs1 hP1 hS1 => kk H1 locs1 lsA hP1 hS1 hL)
end RORO
set_option maxHeartbeats 4000000 in
set_option maxRecDepth 100000 in
theorem c_latin (E : Ev) (h : Hp) (ad : AD) (hR : ∀ s, E.2.2.2.2 s → RO E.2.2.1 ad s) : CT E 1 mJ0_isLatin1_aae02 [.ref ad.2.2.1] h (some (.int (iI 1))) h := by
  refine CT.go okJ0_isLatin1_aae02 (Nat.le_of_ble_eq_true rfl) ?_
  show T E 1 mJ0_isLatin1_aae02 0 [some (.ref ad.2.2.1)] [] h _
  refine T.gets dJ0_isLatin1_aae02_0 (fun s hs => (hR s hs).2.2.2.2.1) (wA_t 414 (by decide +kernel) rfl) ?_
  refine T.topi (z := 1) (by decide) ?_
  refine T.if_eq 17 dJ0_isLatin1_aae02_3 (by unfold rg; omega) (fun c1 => ?_) (fun c1 => ?_)
  · exact absurd c1 (by omega)
  · refine T.aload_n dJ0_isLatin1_aae02_6 rfl ?_
    refine T.rget dJ0_isLatin1_aae02_7 (fun s hs => (hR s hs).2.2.2.2.2.2.2.1) (wA_t 1119 (by decide +kernel) rfl) ?_
    refine T.topi (z := 0) (by decide) ?_
    refine T.if_ne 17 dJ0_isLatin1_aae02_10 (by unfold rg; omega) (fun c2 => ?_) (fun c2 => ?_)
    · exact absurd c2 (by omega)
    · refine T.iconst dJ0_isLatin1_aae02_13 ?_
      refine T.goto 18 dJ0_isLatin1_aae02_14 ?_
      exact T.zret dJ0_isLatin1_aae02_18 (narZ (Or.inr rfl)) ⟨rfl, rfl⟩
set_option maxHeartbeats 4000000 in
set_option maxRecDepth 100000 in
theorem c_coder (E : Ev) (h : Hp) (ad : AD) (hR : ∀ s, E.2.2.2.2 s → RO E.2.2.1 ad s) : CT E 1 mJ0_coder_7d493 [.ref ad.2.2.1] h (some (.int (iI 0))) h := by
  refine CT.go okJ0_coder_7d493 (Nat.le_of_ble_eq_true rfl) ?_
  show T E 1 mJ0_coder_7d493 0 [some (.ref ad.2.2.1)] [] h _
  refine T.gets dJ0_coder_7d493_0 (fun s hs => (hR s hs).2.2.2.2.1) (wA_t 414 (by decide +kernel) rfl) ?_
  refine T.topi (z := 1) (by decide) ?_
  refine T.if_eq 13 dJ0_coder_7d493_3 (by unfold rg; omega) (fun c1 => ?_) (fun c1 => ?_)
  · exact absurd c1 (by omega)
  · refine T.aload_n dJ0_coder_7d493_6 rfl ?_
    refine T.rget dJ0_coder_7d493_7 (fun s hs => (hR s hs).2.2.2.2.2.2.2.1) (wA_t 1119 (by decide +kernel) rfl) ?_
    refine T.topi (z := 0) (by decide) ?_
    refine T.goto 14 dJ0_coder_7d493_10 ?_
    exact T.nret (ty := .byte) dJ0_coder_7d493_14 rfl ⟨rfl, rfl⟩
set_option maxHeartbeats 4000000 in
set_option maxRecDepth 100000 in
theorem c_slen (E : Ev) (h : Hp) (ad : AD) (hR : ∀ s, E.2.2.2.2 s → RO E.2.2.1 ad s) : CT E 2 mJ0_length_8abf5 [.ref ad.2.2.1] h (some (.int (iI 10))) h := by
  refine CT.go okJ0_length_8abf5 (Nat.le_of_ble_eq_true rfl) ?_
  show T E 2 mJ0_length_8abf5 0 [some (.ref ad.2.2.1)] [] h _
  refine T.aload_n dJ0_length_8abf5_0 rfl ?_
  refine T.rget dJ0_length_8abf5_1 (fun s hs => (hR s hs).2.2.2.2.2.2.2.2.1) (wA_t 1120 (by decide +kernel) rfl) ?_
  refine T.rtlen dJ0_length_8abf5_4 (fun s hs => (hR s hs).2.2.2.2.2.2.2.2.2) ?_
  refine T.aload_n dJ0_length_8abf5_5 rfl ?_
  refine T.cR1 (As := []) (st := [.int (iI ((10 : Nat) : Int))]) dJ0_length_8abf5_6 lk_J0_335 (c_coder E h ad hR) (fun s hs => (hR s hs).2.2.2.2.2.2.1) (by decide) rfl rfl (Nat.le_of_ble_eq_true rfl) ?_
  refine T.ishr dJ0_length_8abf5_9 ?_
  refine T.topi (z := 10) (by decide) ?_
  exact T.iret dJ0_length_8abf5_10 ⟨rfl, rfl⟩
set_option maxHeartbeats 4000000 in
set_option maxRecDepth 100000 in
theorem c_canEnc (E : Ev) (h : Hp) {c : Int} (hc : 0 ≤ c ∧ c ≤ 127) : CT E 1 mJ1_canEncode_9a6ad [.int (iI c)] h (some (.int (iI 1))) h := by
  refine CT.go okJ1_canEncode_9a6ad (Nat.le_of_ble_eq_true rfl) ?_
  show T E 1 mJ1_canEncode_9a6ad 0 [some (.int (iI c))] [] h _
  refine T.iload_n dJ1_canEncode_9a6ad_0 rfl ?_
  refine T.if_lt 15 dJ1_canEncode_9a6ad_1 (by unfold rg; omega) (fun c1 => ?_) (fun c1 => ?_)
  · refine T.iconst dJ1_canEncode_9a6ad_15 ?_
    exfalso; omega
  · refine T.iload_n dJ1_canEncode_9a6ad_4 rfl ?_
    refine T.sipush dJ1_canEncode_9a6ad_5 ?_
    refine T.icmp_gt 15 dJ1_canEncode_9a6ad_8 (by unfold rg; omega) (by unfold rg; omega) (fun c2 => ?_) (fun c2 => ?_)
    · refine T.iconst dJ1_canEncode_9a6ad_15 ?_
      exfalso; omega
    · refine T.iconst dJ1_canEncode_9a6ad_11 ?_
      refine T.goto 16 dJ1_canEncode_9a6ad_12 ?_
      exact T.zret dJ1_canEncode_9a6ad_16 (narZ (Or.inr rfl)) ⟨rfl, rfl⟩
theorem i2b_id : ∀ n : Nat, n < 128 → (iI (n : Int)).toInt8.toInt32 = iI (n : Int) := by decide +kernel
theorem i2c_id : ∀ n : Nat, n < 128 → ((iI (n : Int)).toUInt32 % 65536).toInt32 = iI (n : Int) := by decide +kernel
theorem i2b_of {c : Int} (h : 0 ≤ c ∧ c ≤ 127) : (iI c).toInt8.toInt32 = iI c := by
  obtain ⟨n, rfl⟩ := Int.eq_ofNat_of_zero_le h.1
  exact i2b_id n (by omega)
theorem i2c_of {c : Int} (h : 0 ≤ c ∧ c ≤ 127) : ((iI c).toUInt32 % 65536).toInt32 = iI c := by
  obtain ⟨n, rfl⟩ := Int.eq_ofNat_of_zero_le h.1
  exact i2c_id n (by omega)
def ixF (c : Int) : Nat → Nat → Int
  | 0, _ => -1
  | f + 1, i => if ltT i = c then i else ixF c f (i + 1)
def ixS (c : Int) : Int := ixF c 10 0
theorem ixS_lt : ∀ n : Nat, n < 128 → ((0 ≤ ixS (n : Int)) ↔ isLt (n : Int)) := by decide +kernel
theorem ixS_rg (c : Int) : -1 ≤ ixS c ∧ ixS c ≤ 9 := by
  unfold ixS
  simp only [ixF]
  (repeat split) <;> omega
theorem ltT_rg : ∀ j, j < 10 → 0 ≤ ltT j ∧ ltT j ≤ 127 := by decide +kernel
set_option maxHeartbeats 4000000 in
set_option maxRecDepth 100000 in
theorem c_ixc_lp (E : Ev) (h : Hp) (ad : AD) (hR : ∀ s, E.2.2.2.2 s → RO E.2.2.1 ad s) (c : Int) (hc : 0 ≤ c ∧ c ≤ 127) : ∀ (k : Nat) (i : Nat), 10 - i = k → i ≤ 10 → T E 1 mJ1_indexOfChar_4cfef 7 [some (.ref ad.2.2.2), none, none, some (.int (iI 10)), some (.int (iI c)), some (.int (iI (i : Int)))] [] h (fun r' h' => r' = some (.int (iI (ixF c (10 - i) i))) ∧ h' = h) := by
  intro k
  induction k using Nat.strongRecOn with
  | ind k ih =>
    intro i hk hi
    refine T.iload dJ1_indexOfChar_4cfef_7 rfl ?_
    refine T.iload_n dJ1_indexOfChar_4cfef_9 rfl ?_
    refine T.icmp_ge 31 dJ1_indexOfChar_4cfef_10 (by unfold rg; omega) (by unfold rg; omega) (fun c1 => ?_) (fun c1 => ?_)
    · refine T.iconst dJ1_indexOfChar_4cfef_31 ?_
      obtain rfl : i = 10 := by omega
      exact T.iret dJ1_indexOfChar_4cfef_32 ⟨rfl, rfl⟩
    · refine T.aload_n dJ1_indexOfChar_4cfef_13 rfl ?_
      refine T.iload dJ1_indexOfChar_4cfef_14 rfl ?_
      refine T.rtb (i := i) (f := ltT) dJ1_indexOfChar_4cfef_16 (fun s hs => (hR s hs).2.2.2.2.2.2.2.2.2) rfl (by omega) (by decide) ?_
      have hlr := ltT_rg i (by omega)
      refine T.iload dJ1_indexOfChar_4cfef_17 rfl ?_
      refine T.icmp_ne 25 dJ1_indexOfChar_4cfef_19 (by unfold rg; omega) (by unfold rg; omega) (fun c2 => ?_) (fun c2 => ?_)
      · refine T.iinc (ls' := [some (.ref ad.2.2.2), none, none, some (.int (iI 10)), some (.int (iI c)), some (.int (iI ((i : Int) + 1)))]) dJ1_indexOfChar_4cfef_25 rfl rfl ?_
        refine T.goto 7 dJ1_indexOfChar_4cfef_28 ?_
        rw [show ixF c (10 - i) i = ixF c (10 - (i + 1)) (i + 1) from by rw [show 10 - i = (10 - (i + 1)) + 1 from by omega]; exact if_neg (by omega)]
        exact ih (10 - (i + 1)) (by omega) (i + 1) rfl (by omega)
      · refine T.iload dJ1_indexOfChar_4cfef_22 rfl ?_
        exact T.iret dJ1_indexOfChar_4cfef_24 ⟨by rw [show ixF c (10 - i) i = (i : Int) from by rw [show 10 - i = (10 - (i + 1)) + 1 from by omega]; exact if_pos (by omega)], rfl⟩
set_option maxHeartbeats 4000000 in
set_option maxRecDepth 100000 in
theorem c_ixc (E : Ev) (h : Hp) (ad : AD) (hR : ∀ s, E.2.2.2.2 s → RO E.2.2.1 ad s) (c : Int) (hc : 0 ≤ c ∧ c ≤ 127) : CT E 1 mJ1_indexOfChar_4cfef [.ref ad.2.2.2, .int (iI c), .int (iI 0), .int (iI 10)] h (some (.int (iI (ixS c)))) h := by
  refine CT.go okJ1_indexOfChar_4cfef (Nat.le_of_ble_eq_true rfl) ?_
  show T E 1 mJ1_indexOfChar_4cfef 0 [some (.ref ad.2.2.2), some (.int (iI c)), some (.int (iI 0)), some (.int (iI 10)), none, none] [] h _
  refine T.iload_n dJ1_indexOfChar_4cfef_0 rfl ?_
  refine T.i2b dJ1_indexOfChar_4cfef_1 ?_
  refine T.topi (z := c) (i2b_of hc) ?_
  refine T.istore (ls' := [some (.ref ad.2.2.2), some (.int (iI c)), some (.int (iI 0)), some (.int (iI 10)), some (.int (iI c)), none]) dJ1_indexOfChar_4cfef_2 rfl ?_
  refine T.iload_n dJ1_indexOfChar_4cfef_4 rfl ?_
  refine T.istore (ls' := [some (.ref ad.2.2.2), some (.int (iI c)), some (.int (iI 0)), some (.int (iI 10)), some (.int (iI c)), some (.int (iI 0))]) dJ1_indexOfChar_4cfef_5 rfl ?_
  refine T.fgt (ls' := [some (.ref ad.2.2.2), none, none, some (.int (iI 10)), some (.int (iI c)), some (.int (iI 0))]) (by simp [lsw]) ?_
  exact c_ixc_lp E h ad hR c hc _ 0 rfl (by omega)
set_option maxHeartbeats 4000000 in
set_option maxRecDepth 100000 in
theorem c_lix (E : Ev) (h : Hp) (ad : AD) (hR : ∀ s, E.2.2.2.2 s → RO E.2.2.1 ad s) (c : Int) (hc : 0 ≤ c ∧ c ≤ 127) : CT E 2 mJ1_indexOf_4cfef [.ref ad.2.2.2, .int (iI c), .int (iI 0), .int (iI 10)] h (some (.int (iI (ixS c)))) h := by
  refine CT.go okJ1_indexOf_4cfef (Nat.le_of_ble_eq_true rfl) ?_
  show T E 2 mJ1_indexOf_4cfef 0 [some (.ref ad.2.2.2), some (.int (iI c)), some (.int (iI 0)), some (.int (iI 10))] [] h _
  refine T.iload_n dJ1_indexOf_4cfef_0 rfl ?_
  refine T.cS1 (As := [.int (iI c)]) (st := []) dJ1_indexOf_4cfef_1 lk_J1_88 (c_canEnc E h hc) (by decide) rfl rfl (Nat.le_of_ble_eq_true rfl) ?_
  refine T.if_ne 9 dJ1_indexOf_4cfef_4 (by unfold rg; omega) (fun c1 => ?_) (fun c1 => ?_)
  · refine T.iload_n dJ1_indexOf_4cfef_9 rfl ?_
    refine T.iconst dJ1_indexOf_4cfef_10 ?_
    refine T.mmax dJ1_indexOf_4cfef_11 lmx_J1_92 (by unfold rg; omega) (by unfold rg; omega) (by decide) (Nat.le_of_ble_eq_true rfl) ?_
    refine T.istore_n (ls' := [some (.ref ad.2.2.2), some (.int (iI c)), some (.int (iI (max 0 0))), some (.int (iI 10))]) dJ1_indexOf_4cfef_14 rfl ?_
    refine T.iload_n dJ1_indexOf_4cfef_15 rfl ?_
    refine T.aload_n dJ1_indexOf_4cfef_16 rfl ?_
    refine T.rtlen dJ1_indexOf_4cfef_17 (fun s hs => (hR s hs).2.2.2.2.2.2.2.2.2) ?_
    refine T.mmin dJ1_indexOf_4cfef_18 lmn_J1_38 (by unfold rg; omega) (by unfold rg; omega) (by decide) (Nat.le_of_ble_eq_true rfl) ?_
    refine T.istore_n (ls' := [some (.ref ad.2.2.2), some (.int (iI c)), some (.int (iI (max 0 0))), some (.int (iI (min 10 ((10 : Nat) : Int))))]) dJ1_indexOf_4cfef_21 rfl ?_
    refine T.iload_n dJ1_indexOf_4cfef_22 rfl ?_
    refine T.iload_n dJ1_indexOf_4cfef_23 rfl ?_
    refine T.icmp_lt 29 dJ1_indexOf_4cfef_24 (by unfold rg; omega) (by unfold rg; omega) (fun c2 => ?_) (fun c2 => ?_)
    · refine T.aload_n dJ1_indexOf_4cfef_29 rfl ?_
      refine T.iload_n dJ1_indexOf_4cfef_30 rfl ?_
      refine T.iload_n dJ1_indexOf_4cfef_31 rfl ?_
      refine T.iload_n dJ1_indexOf_4cfef_32 rfl ?_
      refine T.cS1 (As := [.ref ad.2.2.2, .int (iI c), .int (iI (max 0 0)), .int (iI (min 10 ((10 : Nat) : Int)))]) (st := []) dJ1_indexOf_4cfef_33 lk_J1_95 (by have h0 := c_ixc E h ad hR c hc; exact h0) (by decide) rfl rfl (Nat.le_of_ble_eq_true rfl) ?_
      exact T.iret dJ1_indexOf_4cfef_36 ⟨rfl, rfl⟩
    · refine T.iconst dJ1_indexOf_4cfef_27 ?_
      exfalso; omega
  · exact absurd c1 (by omega)
set_option maxHeartbeats 4000000 in
set_option maxRecDepth 100000 in
theorem c_ix2 (E : Ev) (h : Hp) (ad : AD) (hR : ∀ s, E.2.2.2.2 s → RO E.2.2.1 ad s) (c : Int) (hc : 0 ≤ c ∧ c ≤ 127) : CT E 3 mJ0_indexOf_7cf53 [.ref ad.2.2.1, .int (iI c), .int (iI 0)] h (some (.int (iI (ixS c)))) h := by
  refine CT.go okJ0_indexOf_7cf53 (Nat.le_of_ble_eq_true rfl) ?_
  show T E 3 mJ0_indexOf_7cf53 0 [some (.ref ad.2.2.1), some (.int (iI c)), some (.int (iI 0))] [] h _
  refine T.aload_n dJ0_indexOf_7cf53_0 rfl ?_
  refine T.cR1 (As := []) (st := []) dJ0_indexOf_7cf53_1 lk_J0_492 (c_latin E h ad hR) (fun s hs => (hR s hs).2.2.2.2.2.2.1) (by decide) rfl rfl (Nat.le_of_ble_eq_true rfl) ?_
  refine T.if_eq 23 dJ0_indexOf_7cf53_4 (by unfold rg; omega) (fun c1 => ?_) (fun c1 => ?_)
  · exact absurd c1 (by omega)
  · refine T.aload_n dJ0_indexOf_7cf53_7 rfl ?_
    refine T.rget dJ0_indexOf_7cf53_8 (fun s hs => (hR s hs).2.2.2.2.2.2.2.2.1) (wA_t 1120 (by decide +kernel) rfl) ?_
    refine T.iload_n dJ0_indexOf_7cf53_11 rfl ?_
    refine T.iload_n dJ0_indexOf_7cf53_12 rfl ?_
    refine T.aload_n dJ0_indexOf_7cf53_13 rfl ?_
    refine T.cR1 (As := []) (st := [.int (iI 0), .int (iI c), .ref ad.2.2.2]) dJ0_indexOf_7cf53_14 lk_J0_505 (c_slen E h ad hR) (fun s hs => (hR s hs).2.2.2.2.2.2.1) (by decide) rfl rfl (Nat.le_of_ble_eq_true rfl) ?_
    refine T.cS1 (As := [.ref ad.2.2.2, .int (iI c), .int (iI 0), .int (iI 10)]) (st := []) dJ0_indexOf_7cf53_17 lk_J0_637 (c_lix E h ad hR c hc) (by decide) rfl rfl (Nat.le_of_ble_eq_true rfl) ?_
    refine T.goto 36 dJ0_indexOf_7cf53_20 ?_
    exact T.iret dJ0_indexOf_7cf53_36 ⟨rfl, rfl⟩
set_option maxHeartbeats 4000000 in
set_option maxRecDepth 100000 in
theorem c_ix (E : Ev) (h : Hp) (ad : AD) (hR : ∀ s, E.2.2.2.2 s → RO E.2.2.1 ad s) (c : Int) (hc : 0 ≤ c ∧ c ≤ 127) : CT E 4 mJ0_indexOf_0f7a4 [.ref ad.2.2.1, .int (iI c)] h (some (.int (iI (ixS c)))) h := by
  refine CT.go okJ0_indexOf_0f7a4 (Nat.le_of_ble_eq_true rfl) ?_
  show T E 4 mJ0_indexOf_0f7a4 0 [some (.ref ad.2.2.1), some (.int (iI c))] [] h _
  refine T.aload_n dJ0_indexOf_0f7a4_0 rfl ?_
  refine T.iload_n dJ0_indexOf_0f7a4_1 rfl ?_
  refine T.iconst dJ0_indexOf_0f7a4_2 ?_
  refine T.cR1 (As := [.int (iI c), .int (iI 0)]) (st := []) dJ0_indexOf_0f7a4_3 lk_J0_633 (c_ix2 E h ad hR c hc) (fun s hs => (hR s hs).2.2.2.2.2.2.1) (by decide) rfl rfl (Nat.le_of_ble_eq_true rfl) ?_
  exact T.iret dJ0_indexOf_0f7a4_6 ⟨rfl, rfl⟩
theorem trT_rg : ∀ j, j < 6 → (-1 ≤ leT j ∧ leT j ≤ 0) ∧ 1 ≤ moT j ∧ moT j ≤ 299 := by decide +kernel
def setR (m : Mem) (d t v : Int) : Int := if ¬ ((0 ≤ d ∧ d ≤ m 1 0 0 1 - 1) ∧ (0 ≤ t ∧ t ≤ 5)) then -1 else if ¬ (leT t.toNat ≤ v ∧ v ≤ moT t.toNat) then -1 else m 6 0 d.toNat t.toNat
def setM (m : Mem) (d t v : Int) : Mem := if ¬ ((0 ≤ d ∧ d ≤ m 1 0 0 1 - 1) ∧ (0 ≤ t ∧ t ≤ 5)) then m else if ¬ (leT t.toNat ≤ v ∧ v ≤ moT t.toNat) then m else up m 6 0 d.toNat t.toNat v
set_option maxHeartbeats 4000000 in
set_option maxRecDepth 100000 in
theorem c_set (E : Ev) (m : Mem) (ad : AD) (hR : ∀ s, E.2.2.2.2 s → RO E.2.2.1 ad s) (d t v : Int) (hI : Inv m) (h1 : rg d) (h2 : rg t) (h3 : rg v) : CT E 3 mX8_set [rf E 0 0 0, .int (iI d), .int (iI t), .int (iI v)] (hp E m) (some (.int (iI (setR m d t v)))) (hp E (setM m d t v)) := by
  refine CT.go okX8_set (Nat.le_of_ble_eq_true rfl) ?_
  show T E 3 mX8_set 0 [some (rf E 0 0 0), some (.int (iI d)), some (.int (iI t)), some (.int (iI v)), none, none] [] (hp E m) _
  unfold rg at h1 h2 h3
  refine T.aload_n dX8_set_0 rfl ?_
  refine T.iload_n dX8_set_1 rfl ?_
  refine T.cV1 (As := [.int (iI d)]) (st := []) dX8_set_2 lk_X8_76 (c_isDebt E m hI (by unfold rg; omega)) ok0 rfl rfl (by decide) rfl rfl (Nat.le_of_ble_eq_true rfl) ?_
  have n1 : (0 ≤ m 1 0 0 1 ∧ m 1 0 0 1 ≤ 8) ∧ 0 ≤ m 1 0 0 3 ∧ m 1 0 0 3 ≤ 12 := ⟨hI 1 0 0 1, hI 1 0 0 3⟩
  refine T.ifB_eq 34 dX8_set_5 (fun c2 => ?_) (fun c2 => ?_)
  · refine T.iconst dX8_set_34 ?_
    exact T.iret dX8_set_35 ⟨congrArg (fun z => some (Value.int (iI z))) (Eq.symm (show setR m d t v = -1 from by unfold setR; first | rw [if_pos (by omega)] | rw [if_neg (by omega), if_pos (by omega)])), congrArg (hp E) (Eq.symm (show setM m d t v = m from by unfold setM; first | rw [if_pos (by omega)] | rw [if_neg (by omega), if_pos (by omega)]))⟩
  · refine T.iload_n dX8_set_8 rfl ?_
    refine T.iconst dX8_set_9 ?_
    refine T.iconst dX8_set_10 ?_
    refine T.cS1 (As := [.int (iI t), .int (iI 0), .int (iI 5)]) (st := []) dX8_set_11 lk_X8_54 (c_within E _ (by unfold rg; omega) (by unfold rg; omega) (by unfold rg; omega)) (by decide) rfl rfl (Nat.le_of_ble_eq_true rfl) ?_
    refine T.ifB_eq 34 dX8_set_14 (fun c3 => ?_) (fun c3 => ?_)
    · refine T.iconst dX8_set_34 ?_
      exact T.iret dX8_set_35 ⟨congrArg (fun z => some (Value.int (iI z))) (Eq.symm (show setR m d t v = -1 from by unfold setR; first | rw [if_pos (by omega)] | rw [if_neg (by omega), if_pos (by omega)])), congrArg (hp E) (Eq.symm (show setM m d t v = m from by unfold setM; first | rw [if_pos (by omega)] | rw [if_neg (by omega), if_pos (by omega)]))⟩
    · refine T.iload_n dX8_set_17 rfl ?_
      refine T.gets dX8_set_18 (fun s hs => (hR s hs).1) (wA_t 323 (by decide +kernel) rfl) ?_
      refine T.iload_n dX8_set_21 rfl ?_
      refine T.rti (i := t.toNat) (f := leT) dX8_set_22 (fun s hs => (hR s hs).2.1) (by omega) (by omega) (by decide) ?_
      have r4 := trT_rg t.toNat (by omega)
      refine T.gets dX8_set_23 (fun s hs => (hR s hs).2.2.1) (wA_t 325 (by decide +kernel) rfl) ?_
      refine T.iload_n dX8_set_26 rfl ?_
      refine T.rti (i := t.toNat) (f := moT) dX8_set_27 (fun s hs => (hR s hs).2.2.2.1) (by omega) (by omega) (by decide) ?_
      have r5 := trT_rg t.toNat (by omega)
      refine T.cS1 (As := [.int (iI v), .int (iI (leT t.toNat)), .int (iI (moT t.toNat))]) (st := []) dX8_set_28 lk_X8_54 (c_within E _ (by unfold rg; omega) (by unfold rg; omega) (by unfold rg; omega)) (by decide) rfl rfl (Nat.le_of_ble_eq_true rfl) ?_
      refine T.ifB_ne 36 dX8_set_31 (fun c6 => ?_) (fun c6 => ?_)
      · refine T.aload_n dX8_set_36 rfl ?_
        refine T.mget (v := rf E 1 0 0) dX8_set_37 fo_X8_10 ok0 rfl rfl ?_
        refine T.mget (v := rf E 2 0 0) dX8_set_40 fo_X8_66 (ok1 (by decide)) rfl rfl ?_
        refine T.iload_n dX8_set_43 rfl ?_
        refine T.mald (C := RX2) (x := d.toNat) dX8_set_44 (ok2 (by decide)) (fun _ => rfl) rfl (by omega) (by omega) ?_
        refine T.mget (v := rf E 6 0 d.toNat) dX8_set_45 fo_X8_86 (ok5 (by decide) (by omega)) rfl rfl ?_
        refine T.astore (ls' := [some (rf E 0 0 0), some (.int (iI d)), some (.int (iI t)), some (.int (iI v)), some (rf E 6 0 d.toNat), none]) dX8_set_48 rfl ?_
        refine T.aload dX8_set_50 rfl ?_
        refine T.iload_n dX8_set_52 rfl ?_
        refine T.aI (z := m 6 0 d.toNat t.toNat) (x := t.toNat) dX8_set_53 (ok6 (by decide) (by omega)) (fun _ => rfl) (by omega) (by omega) rfl ?_
        refine T.istore (ls' := [some (rf E 0 0 0), some (.int (iI d)), some (.int (iI t)), some (.int (iI v)), some (rf E 6 0 d.toNat), some (.int (iI (m 6 0 d.toNat t.toNat)))]) dX8_set_54 rfl ?_
        refine T.aload dX8_set_56 rfl ?_
        refine T.iload_n dX8_set_58 rfl ?_
        refine T.iload_n dX8_set_59 rfl ?_
        refine T.mist (x := t.toNat) dX8_set_60 (ok6 (by decide) (by omega)) (fun _ => rfl) (by omega) (by omega) ?_
        refine T.iload dX8_set_61 rfl ?_
        exact T.iret dX8_set_63 ⟨congrArg (fun z => some (Value.int (iI z))) (Eq.symm (show setR m d t v = m 6 0 d.toNat t.toNat from by unfold setR; rw [if_neg (by omega), if_neg (by omega)])), congrArg (hp E) (Eq.symm (show setM m d t v = (up m 6 0 d.toNat t.toNat v) from by unfold setM; rw [if_neg (by omega), if_neg (by omega)]))⟩
      · refine T.iconst dX8_set_34 ?_
        exact T.iret dX8_set_35 ⟨congrArg (fun z => some (Value.int (iI z))) (Eq.symm (show setR m d t v = -1 from by unfold setR; first | rw [if_pos (by omega)] | rw [if_neg (by omega), if_pos (by omega)])), congrArg (hp E) (Eq.symm (show setM m d t v = m from by unfold setM; first | rw [if_pos (by omega)] | rw [if_neg (by omega), if_pos (by omega)]))⟩
