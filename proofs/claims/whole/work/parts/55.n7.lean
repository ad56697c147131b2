def taB (tr fo : Nat → Int) : Nat → Nat → Bool
  | 0, _ => false
  | f + 1, i => if tr i = fo i then taB tr fo f (i + 1) else decide (tr i < fo i)
abbrev taM (M : Mem) : Prop := taB (M 22 0 0) (M 21 0 0) (M 20 0 0 5).toNat 0 = true
def weM (M : Mem) (ow : Int) : Mem := if M 20 0 0 2 = 0 ∨ ow < M 20 0 0 1 ∨ (ow = M 20 0 0 1 ∧ taM M) then cpS (up (up M 20 0 0 2 1) 20 0 0 1 ow) 21 0 0 22 0 0 3 else M
set_option maxHeartbeats 4000000 in
set_option maxRecDepth 100000 in
theorem c_tra_lp (E : Ev) (M : Mem) (hM : Inv M) (n : Nat) (hn : M 20 0 0 5 = n) : ∀ (k : Nat) (i : Nat), n - i = k → i ≤ n → T E 1 mX7_isTriedAhead 2 [some (rf E 20 0 0), some (.int (iI (i : Int)))] [] (hp E M) (fun r' h' => r' = some (.int (iI (bZ (taB (M 22 0 0) (M 21 0 0) (n - i) i = true)))) ∧ h' = hp E M) := by
  have hn8 : 0 ≤ M 20 0 0 5 ∧ M 20 0 0 5 ≤ 3 := hM 20 0 0 5
  intro k
  induction k using Nat.strongRecOn with
  | ind k ih =>
    intro i hk hi
    refine T.iload_n dX7_isTriedAhead_2 rfl ?_
    refine T.aload_n dX7_isTriedAhead_3 rfl ?_
    refine T.gI (z := M 20 0 0 5) dX7_isTriedAhead_4 fo_X7_32 ok20 rfl rfl rfl ?_
    have q1 : 0 ≤ M 20 0 0 5 ∧ M 20 0 0 5 ≤ 3 := hM 20 0 0 5
    refine T.icmp_ge 52 dX7_isTriedAhead_7 (by unfold rg; omega) (by unfold rg; omega) (fun c2 => ?_) (fun c2 => ?_)
    · refine T.iconst dX7_isTriedAhead_52 ?_
      exact T.zret dX7_isTriedAhead_53 (narZ (Or.inl rfl)) ⟨by rw [bZ_f (by rw [show n - i = 0 from by omega]; simp [taB])], rfl⟩
    · refine T.aload_n dX7_isTriedAhead_10 rfl ?_
      refine T.mget (v := rf E 22 0 0) dX7_isTriedAhead_11 fo_X7_23 ok20 rfl rfl ?_
      refine T.iload_n dX7_isTriedAhead_14 rfl ?_
      refine T.aI (z := M 22 0 0 i) (x := i) dX7_isTriedAhead_15 ok22 (fun _ => rfl) rfl (by omega) rfl ?_
      have q3 : -1 ≤ M 22 0 0 i ∧ M 22 0 0 i ≤ 7 := hM 22 0 0 i
      refine T.aload_n dX7_isTriedAhead_16 rfl ?_
      refine T.mget (v := rf E 21 0 0) dX7_isTriedAhead_17 fo_X7_9 ok20 rfl rfl ?_
      refine T.iload_n dX7_isTriedAhead_20 rfl ?_
      refine T.aI (z := M 21 0 0 i) (x := i) dX7_isTriedAhead_21 ok21 (fun _ => rfl) rfl (by omega) rfl ?_
      have q4 : -1 ≤ M 21 0 0 i ∧ M 21 0 0 i ≤ 7 := hM 21 0 0 i
      refine T.icmp_eq 46 dX7_isTriedAhead_22 (by unfold rg; omega) (by unfold rg; omega) (fun c5 => ?_) (fun c5 => ?_)
      · refine T.iinc (ls' := [some (rf E 20 0 0), some (.int (iI ((i : Int) + 1)))]) dX7_isTriedAhead_46 rfl rfl ?_
        refine T.goto 2 dX7_isTriedAhead_49 ?_
        rw [show taB (M 22 0 0) (M 21 0 0) (n - i) i = taB (M 22 0 0) (M 21 0 0) (n - (i + 1)) (i + 1) from by rw [show n - i = (n - (i + 1)) + 1 from by omega]; exact if_pos (by omega)]
        exact ih (n - (i + 1)) (by omega) (i + 1) rfl (by omega)
      · refine T.aload_n dX7_isTriedAhead_25 rfl ?_
        refine T.mget (v := rf E 22 0 0) dX7_isTriedAhead_26 fo_X7_23 ok20 rfl rfl ?_
        refine T.iload_n dX7_isTriedAhead_29 rfl ?_
        refine T.aI (z := M 22 0 0 i) (x := i) dX7_isTriedAhead_30 ok22 (fun _ => rfl) rfl (by omega) rfl ?_
        refine T.aload_n dX7_isTriedAhead_31 rfl ?_
        refine T.mget (v := rf E 21 0 0) dX7_isTriedAhead_32 fo_X7_9 ok20 rfl rfl ?_
        refine T.iload_n dX7_isTriedAhead_35 rfl ?_
        refine T.aI (z := M 21 0 0 i) (x := i) dX7_isTriedAhead_36 ok21 (fun _ => rfl) rfl (by omega) rfl ?_
        refine T.icmp_ge 44 dX7_isTriedAhead_37 (by unfold rg; omega) (by unfold rg; omega) (fun c6 => ?_) (fun c6 => ?_)
        · refine T.iconst dX7_isTriedAhead_44 ?_
          exact T.zret dX7_isTriedAhead_45 (narZ (Or.inl rfl)) ⟨by rw [bZ_f (by rw [show taB (M 22 0 0) (M 21 0 0) (n - i) i = decide (M 22 0 0 i < M 21 0 0 i) from by rw [show n - i = (n - (i + 1)) + 1 from by omega]; exact if_neg (by omega)]; simp; omega)], rfl⟩
        · refine T.iconst dX7_isTriedAhead_40 ?_
          refine T.goto 45 dX7_isTriedAhead_41 ?_
          exact T.zret dX7_isTriedAhead_45 (narZ (Or.inr rfl)) ⟨by rw [bZ_t (by rw [show taB (M 22 0 0) (M 21 0 0) (n - i) i = decide (M 22 0 0 i < M 21 0 0 i) from by rw [show n - i = (n - (i + 1)) + 1 from by omega]; exact if_neg (by omega)]; simp; omega)], rfl⟩
set_option maxHeartbeats 4000000 in
set_option maxRecDepth 100000 in
theorem c_tra (E : Ev) (M : Mem) (hM : Inv M) : CT E 1 mX7_isTriedAhead [rf E 20 0 0] (hp E M) (some (.int (iI (bZ (taM M))))) (hp E M) := by
  refine CT.go okX7_isTriedAhead (Nat.le_of_ble_eq_true rfl) ?_
  show T E 1 mX7_isTriedAhead 0 [some (rf E 20 0 0), none] [] (hp E M) _
  refine T.iconst dX7_isTriedAhead_0 ?_
  refine T.istore_n (ls' := [some (rf E 20 0 0), some (.int (iI 0))]) dX7_isTriedAhead_1 rfl ?_
  have hn8 : 0 ≤ M 20 0 0 5 ∧ M 20 0 0 5 ≤ 3 := hM 20 0 0 5
  exact c_tra_lp E M hM _ (Int.toNat_of_nonneg hn8.1).symm _ 0 rfl (Nat.zero_le _)
set_option maxHeartbeats 4000000 in
set_option maxRecDepth 100000 in
theorem c_weigh (E : Ev) (M : Mem) (ow : Int) (hM : Inv M) (how : 0 ≤ ow ∧ ow ≤ 32799920000) (hlo : M 20 0 0 2 ≠ 0 → 0 ≤ M 20 0 0 1 ∧ M 20 0 0 1 ≤ 32799920000) : CT E 2 mX7_weigh [rf E 20 0 0, .long (lI ow)] (hp E M) (none) (hp E (weM M ow)) := by
  refine CT.go okX7_weigh (Nat.le_of_ble_eq_true rfl) ?_
  show T E 2 mX7_weigh 0 [some (rf E 20 0 0), some (.long (lI ow)), none] [] (hp E M) _
  refine T.aload_n dX7_weigh_0 rfl ?_
  refine T.gI (z := M 20 0 0 2) dX7_weigh_1 fo_X7_19 ok20 rfl rfl rfl ?_
  have q1 : 0 ≤ M 20 0 0 2 ∧ M 20 0 0 2 ≤ 1 := hM 20 0 0 2
  refine T.if_eq 32 dX7_weigh_4 (by unfold rg; omega) (fun c2 => ?_) (fun c2 => ?_)
  · refine T.aload_n dX7_weigh_32 rfl ?_
    refine T.iconst dX7_weigh_33 ?_
    refine T.mputZ dX7_weigh_34 fp_X7_19 (Or.inr rfl) ok20 rfl rfl (Nat.le_of_ble_eq_true rfl) ?_
    refine T.aload_n dX7_weigh_37 rfl ?_
    refine T.lload_n dX7_weigh_38 rfl ?_
    refine T.mputL dX7_weigh_39 fp_X7_15 ok20 rfl rfl (Nat.le_of_ble_eq_true rfl) ?_
    refine T.aload_n dX7_weigh_42 rfl ?_
    refine T.mget (v := rf E 22 0 0) dX7_weigh_43 fo_X7_23 ok20 rfl rfl ?_
    refine T.iconst dX7_weigh_46 ?_
    refine T.aload_n dX7_weigh_47 rfl ?_
    refine T.mget (v := rf E 21 0 0) dX7_weigh_48 fo_X7_9 ok20 rfl rfl ?_
    refine T.iconst dX7_weigh_51 ?_
    refine T.iconst dX7_weigh_52 ?_
    refine T.mcpi (n := 3) dX7_weigh_53 lc_X7_103 ok21 (fun _ => rfl) ok22 (fun _ => rfl) rfl rfl rfl (by decide) (by decide) (by decide) (Nat.le_of_ble_eq_true rfl) ?_
    exact T.vret dX7_weigh_56 ⟨rfl, congrArg (hp E) (Eq.symm (show weM M ow = (cpS (up (up M 20 0 0 2 1) 20 0 0 1 ow) 21 0 0 22 0 0 3) from if_pos (by first | (left; omega) | (right; left; omega) | (right; right; exact ⟨by omega, by assumption⟩))))⟩
  · refine T.lload_n dX7_weigh_7 rfl ?_
    refine T.aload_n dX7_weigh_8 rfl ?_
    refine T.gL (z := M 20 0 0 1) dX7_weigh_9 fo_X7_15 ok20 rfl rfl rfl ?_
    have hlw : 0 ≤ M 20 0 0 1 ∧ M 20 0 0 1 ≤ 32799920000 := hlo (by omega)
    refine T.lcmp_lt 32 dX7_weigh_12 dX7_weigh_13 (by unfold rl; omega) (by unfold rl; omega) (fun c3 => ?_) (fun c3 => ?_)
    · refine T.aload_n dX7_weigh_32 rfl ?_
      refine T.iconst dX7_weigh_33 ?_
      refine T.mputZ dX7_weigh_34 fp_X7_19 (Or.inr rfl) ok20 rfl rfl (Nat.le_of_ble_eq_true rfl) ?_
      refine T.aload_n dX7_weigh_37 rfl ?_
      refine T.lload_n dX7_weigh_38 rfl ?_
      refine T.mputL dX7_weigh_39 fp_X7_15 ok20 rfl rfl (Nat.le_of_ble_eq_true rfl) ?_
      refine T.aload_n dX7_weigh_42 rfl ?_
      refine T.mget (v := rf E 22 0 0) dX7_weigh_43 fo_X7_23 ok20 rfl rfl ?_
      refine T.iconst dX7_weigh_46 ?_
      refine T.aload_n dX7_weigh_47 rfl ?_
      refine T.mget (v := rf E 21 0 0) dX7_weigh_48 fo_X7_9 ok20 rfl rfl ?_
      refine T.iconst dX7_weigh_51 ?_
      refine T.iconst dX7_weigh_52 ?_
      refine T.mcpi (n := 3) dX7_weigh_53 lc_X7_103 ok21 (fun _ => rfl) ok22 (fun _ => rfl) rfl rfl rfl (by decide) (by decide) (by decide) (Nat.le_of_ble_eq_true rfl) ?_
      exact T.vret dX7_weigh_56 ⟨rfl, congrArg (hp E) (Eq.symm (show weM M ow = (cpS (up (up M 20 0 0 2 1) 20 0 0 1 ow) 21 0 0 22 0 0 3) from if_pos (by first | (left; omega) | (right; left; omega) | (right; right; exact ⟨by omega, by assumption⟩))))⟩
    · refine T.lload_n dX7_weigh_16 rfl ?_
      refine T.aload_n dX7_weigh_17 rfl ?_
      refine T.gL (z := M 20 0 0 1) dX7_weigh_18 fo_X7_15 ok20 rfl rfl rfl ?_
      refine T.lcmp_ne 56 dX7_weigh_21 dX7_weigh_22 (by unfold rl; omega) (by unfold rl; omega) (fun c4 => ?_) (fun c4 => ?_)
      · exact T.vret dX7_weigh_56 ⟨rfl, congrArg (hp E) (Eq.symm (show weM M ow = M from if_neg (fun z => by rcases z with z | z | ⟨z1, z2⟩ <;> first | omega | contradiction)))⟩
      · refine T.aload_n dX7_weigh_25 rfl ?_
        refine T.cV1 (As := []) (st := []) dX7_weigh_26 lk_X7_99 (c_tra E M hM) ok20 rfl rfl (by decide) rfl rfl (Nat.le_of_ble_eq_true rfl) ?_
        refine T.ifB_eq 56 dX7_weigh_29 (fun c5 => ?_) (fun c5 => ?_)
        · exact T.vret dX7_weigh_56 ⟨rfl, congrArg (hp E) (Eq.symm (show weM M ow = M from if_neg (fun z => by rcases z with z | z | ⟨z1, z2⟩ <;> first | omega | contradiction)))⟩
        · refine T.aload_n dX7_weigh_32 rfl ?_
          refine T.iconst dX7_weigh_33 ?_
          refine T.mputZ dX7_weigh_34 fp_X7_19 (Or.inr rfl) ok20 rfl rfl (Nat.le_of_ble_eq_true rfl) ?_
          refine T.aload_n dX7_weigh_37 rfl ?_
          refine T.lload_n dX7_weigh_38 rfl ?_
          refine T.mputL dX7_weigh_39 fp_X7_15 ok20 rfl rfl (Nat.le_of_ble_eq_true rfl) ?_
          refine T.aload_n dX7_weigh_42 rfl ?_
          refine T.mget (v := rf E 22 0 0) dX7_weigh_43 fo_X7_23 ok20 rfl rfl ?_
          refine T.iconst dX7_weigh_46 ?_
          refine T.aload_n dX7_weigh_47 rfl ?_
          refine T.mget (v := rf E 21 0 0) dX7_weigh_48 fo_X7_9 ok20 rfl rfl ?_
          refine T.iconst dX7_weigh_51 ?_
          refine T.iconst dX7_weigh_52 ?_
          refine T.mcpi (n := 3) dX7_weigh_53 lc_X7_103 ok21 (fun _ => rfl) ok22 (fun _ => rfl) rfl rfl rfl (by decide) (by decide) (by decide) (Nat.le_of_ble_eq_true rfl) ?_
          exact T.vret dX7_weigh_56 ⟨rfl, congrArg (hp E) (Eq.symm (show weM M ow = (cpS (up (up M 20 0 0 2 1) 20 0 0 1 ow) 21 0 0 22 0 0 3) from if_pos (by first | (left; omega) | (right; left; omega) | (right; right; exact ⟨by omega, by assumption⟩))))⟩
noncomputable def atL (β L : PS) (ch y : Int) : Nat → PS → PS
  | 0, S => S
  | f + 1, S => if ch ≤ nextS β S y then atL β L ch y f (takeS β L S (nextS β S y).toNat) else S
/-- a course's numbers in a memory -/
abbrev cs (m : Mem) (j : Nat) : PS := fun k => m k j 0
noncomputable def tfA (m : Mem) (j : Nat) : PS := atL (bk m (2 + j)) (lw m (16 + j)) (m 20 0 0 5) (m 20 0 0 6) 12 (cs m j)
noncomputable def tfN (m : Mem) (j : Nat) : Int := nextS (bk m (2 + j)) (tfA m j) (m 20 0 0 6)
noncomputable def tfR (m : Mem) (j : Nat) (y : Int) : PS := runToS (bk m (2 + j)) (tfA m j) y
noncomputable def tfE (m : Mem) (j : Nat) : Mem := weM (wrC m j (tfR m j (m 20 0 0 6))) (owedL (bk m (2 + j)) (tfR m j (m 20 0 0 6)) (m 1 (2 + j) 0 1).toNat)
noncomputable def tfB (m : Mem) (j : Nat) : Mem := wrC m j (tfR m j (m 7 (2 + j) (tfN m j).toNat 0))
def tfD (D : Mem) (j nx : Nat) (b : Int) : Mem := up (up D 22 0 0 nx b) 7 (2 + (j + 1)) nx 2 b
def tfW (D : Mem) (j nx : Nat) (b : Int) : PS := swS (cs (up D 22 0 0 nx b) (j + 1)) (cs (up D 22 0 0 nx b) j)
noncomputable def tfS (D : Mem) (j nx : Nat) (b : Int) : Mem := wrC (tfD D j nx b) (j + 1) (takeS (bk (tfD D j nx b) (2 + (j + 1))) (lw (tfD D j nx b) (16 + (j + 1))) (tfW D j nx b) nx)
abbrev tfH (D : Mem) (j : Nat) (b : Int) : Prop := b = -1 ∨ (hasB (lw D (16 + j)) 99 ∧ opS (bk D (2 + j)) (cs D j) b)
noncomputable def tfL (T : Mem → Mem) (j nx : Nat) : Nat → Int → Mem → Mem
  | 0, _, D => D
  | f + 1, b, D => tfL T j nx f (b + 1) (if tfH D j b then T (tfS D j nx b) else D)
noncomputable def tfM : Nat → Mem → Mem
  | 0, m => tfE m 5
  | r + 1, m => if tfN m (4 - r) < 0 ∨ m 20 0 0 5 ≤ tfN m (4 - r) then tfE m (4 - r) else tfL (tfM r) (4 - r) (tfN m (4 - r)).toNat (m 1 (2 + (4 - r)) 0 1 + 1).toNat (-1) (tfB m (4 - r))
theorem nextS_rg {β S : PS} {t : Int} (hn : (β 13 0).toNat ≤ 12) : -1 ≤ nextS β S t ∧ nextS β S t ≤ 11 := by
  have := nextL_rg (β := β) (S := S) (tg := t) (β 13 0).toNat
  unfold nextS
  omega
theorem n13_of {m : Mem} (hI : Inv m) (b : Nat) : ((bk m b) 13 0).toNat ≤ 12 := by
  have : 0 ≤ m 1 b 0 3 ∧ m 1 b 0 3 ≤ 12 := hI 1 b 0 3
  show (m 1 b 0 3).toNat ≤ 12
  omega
theorem take_inv {m : Mem} {b q : Nat} {S : PS} {p : Nat} (hI : Inv m) (hS : InvS kC S) (hB : CB (bk m b) S) (hp : p < 12) : InvS kC (takeS (bk m b) (lw m q) S p) ∧ CB (bk m b) (takeS (bk m b) (lw m q) S p) := takeS_inv hS (rt_of hI b) hB (n8_of hI b) (hI 7 b p 0).2 hp
theorem atL_inv {m : Mem} {b q : Nat} {ch y : Int} (hI : Inv m) (hch : 0 ≤ ch) : ∀ f S, InvS kC S → CB (bk m b) S → InvS kC (atL (bk m b) (lw m q) ch y f S) ∧ CB (bk m b) (atL (bk m b) (lw m q) ch y f S)
  | 0, S, h1, h2 => ⟨h1, h2⟩
  | f + 1, S, h1, h2 => by
    have hr := nextS_rg (β := bk m b) (S := S) (t := y) (n13_of hI b)
    unfold atL
    split
    · have h3 := take_inv (q := q) (p := (nextS (bk m b) S y).toNat) hI h1 h2 (by omega)
      exact atL_inv hI hch f _ h3.1 h3.2
    · exact ⟨h1, h2⟩
set_option maxHeartbeats 4000000 in
set_option maxRecDepth 100000 in
theorem c_tf_a (E : Ev) (dd : Nat) (hdd : 6 ≤ dd) (m : Mem) (j : Nat) (dp : Int) (hj : j < 6) (hI : Inv m) (Q : Option Value → Hp → Prop) : ∀ (k : Nat) (i : Nat) (S : PS), 12 - i = k → i ≤ 12 → InvS kC S → CB (bk m (2 + j)) S → T E dd mX7_tryFrom 54 [some (rf E 20 0 0), some (.int (iI dp)), some (rf E 10 j 0), some (.int (iI (nextS (bk m (2 + j)) (atL (bk m (2 + j)) (lw m (16 + j)) (m 20 0 0 5) (m 20 0 0 6) (12 - i) S) (m 20 0 0 6)))), none, none] [] (hp E (wrC m j (atL (bk m (2 + j)) (lw m (16 + j)) (m 20 0 0 5) (m 20 0 0 6) (12 - i) S))) Q → T E dd mX7_tryFrom 19 [some (rf E 20 0 0), some (.int (iI dp)), some (rf E 10 j 0), some (.int (iI (nextS (bk m (2 + j)) S (m 20 0 0 6)))), some (.int (iI (i : Int))), none] [] (hp E (wrC m j S)) Q := by
  have qy : 0 ≤ m 20 0 0 6 ∧ m 20 0 0 6 ≤ 299 := hI 20 0 0 6
  have qc : 0 ≤ m 20 0 0 5 ∧ m 20 0 0 5 ≤ 3 := hI 20 0 0 5
  intro k
  induction k using Nat.strongRecOn with
  | ind k ih =>
    intro i S hk hi hS hB hK
    have hr := nextS_rg (β := (bk m (2 + j))) (S := S) (t := (m 20 0 0 6)) (n13_of hI (2 + j))
    refine T.iload dX7_tryFrom_19 rfl ?_
    refine T.bipush dX7_tryFrom_21 ?_
    refine T.icmp_ge 54 dX7_tryFrom_23 (by unfold rg; omega) (by unfold rg; omega) (fun c1 => ?_) (fun c1 => ?_)
    · refine T.fgt (ls' := [some (rf E 20 0 0), some (.int (iI dp)), some (rf E 10 j 0), some (.int (iI (nextS (bk m (2 + j)) S (m 20 0 0 6)))), none, none]) (by simp [lsw]) ?_
      rw [show (atL (bk m (2 + j)) (lw m (16 + j)) (m 20 0 0 5) (m 20 0 0 6) (12 - i) S) = S from by cases hf : 12 - i with
          | zero => rfl
          | succ f => exact if_neg (by omega)] at hK
      exact hK
    · refine T.iload_n dX7_tryFrom_26 rfl ?_
      refine T.aload_n dX7_tryFrom_27 rfl ?_
      refine T.gI (z := m 20 0 0 5) dX7_tryFrom_28 fo_X7_32 ok20 rfl rfl rfl ?_
      have q2 : 0 ≤ m 20 0 0 5 ∧ m 20 0 0 5 ≤ 3 := hI 20 0 0 5
      refine T.icmp_lt 54 dX7_tryFrom_31 (by unfold rg; omega) (by unfold rg; omega) (fun c3 => ?_) (fun c3 => ?_)
      · refine T.fgt (ls' := [some (rf E 20 0 0), some (.int (iI dp)), some (rf E 10 j 0), some (.int (iI (nextS (bk m (2 + j)) S (m 20 0 0 6)))), none, none]) (by simp [lsw]) ?_
        rw [show (atL (bk m (2 + j)) (lw m (16 + j)) (m 20 0 0 5) (m 20 0 0 6) (12 - i) S) = S from by cases hf : 12 - i with
            | zero => rfl
            | succ f => exact if_neg (by omega)] at hK
        exact hK
      · refine T.aload_n dX7_tryFrom_34 rfl ?_
        refine T.iload_n dX7_tryFrom_35 rfl ?_
        refine T.cV0 (As := [.int (iI (nextS (bk m (2 + j)) S (m 20 0 0 6)))]) (st := []) dX7_tryFrom_36 lk_X7_58 (by have h0 := c_take E m j S (nextS (bk m (2 + j)) S (m 20 0 0 6)).toNat hj hI hS (by omega) hB; rw [show (((nextS (bk m (2 + j)) S (m 20 0 0 6)).toNat : Nat) : Int) = nextS (bk m (2 + j)) S (m 20 0 0 6) from by omega] at h0; exact h0) (ok10 (by omega)) rfl rfl (by omega) rfl rfl (Nat.le_of_ble_eq_true rfl) ?_
        have ht := take_inv (q := 16 + j) (p := (nextS (bk m (2 + j)) S (m 20 0 0 6)).toNat) hI hS hB (by omega)
        refine T.aload_n dX7_tryFrom_39 rfl ?_
        refine T.aload_n dX7_tryFrom_40 rfl ?_
        refine T.gI (z := m 20 0 0 6) dX7_tryFrom_41 fo_X7_36 ok20 rfl rfl rfl ?_
        have q4 : 0 ≤ m 20 0 0 6 ∧ m 20 0 0 6 ≤ 299 := hI 20 0 0 6
        refine T.cV1 (As := [.int (iI (m 20 0 0 6))]) (st := []) dX7_tryFrom_44 lk_X7_54 (c_next E m j (takeS (bk m (2 + j)) (lw m (16 + j)) S (nextS (bk m (2 + j)) S (m 20 0 0 6)).toNat) (m 20 0 0 6) hj hI ht.1 (by omega)) (ok10 (by omega)) rfl rfl (by omega) rfl rfl (Nat.le_of_ble_eq_true rfl) ?_
        refine T.istore_n (ls' := [some (rf E 20 0 0), some (.int (iI dp)), some (rf E 10 j 0), some (.int (iI (nextS (bk m (2 + j)) (takeS (bk m (2 + j)) (lw m (16 + j)) S (nextS (bk m (2 + j)) S (m 20 0 0 6)).toNat) (m 20 0 0 6)))), some (.int (iI (i : Int))), none]) dX7_tryFrom_47 rfl ?_
        refine T.iinc (ls' := [some (rf E 20 0 0), some (.int (iI dp)), some (rf E 10 j 0), some (.int (iI (nextS (bk m (2 + j)) (takeS (bk m (2 + j)) (lw m (16 + j)) S (nextS (bk m (2 + j)) S (m 20 0 0 6)).toNat) (m 20 0 0 6)))), some (.int (iI ((i : Int) + 1))), none]) dX7_tryFrom_48 rfl rfl ?_
        refine T.goto 19 dX7_tryFrom_51 ?_
        rw [show (atL (bk m (2 + j)) (lw m (16 + j)) (m 20 0 0 5) (m 20 0 0 6) (12 - i) S) = (atL (bk m (2 + j)) (lw m (16 + j)) (m 20 0 0 5) (m 20 0 0 6) (12 - (i + 1)) (takeS (bk m (2 + j)) (lw m (16 + j)) S (nextS (bk m (2 + j)) S (m 20 0 0 6)).toNat)) from by rw [show 12 - i = (12 - (i + 1)) + 1 from by omega]; exact if_pos (by omega)] at hK
        exact ih (12 - (i + 1)) (by omega) (i + 1) _ rfl (by omega) ht.1 ht.2 hK
set_option maxHeartbeats 4000000 in
set_option maxRecDepth 100000 in
theorem c_tf_76 (E : Ev) (dd : Nat) (hdd : 6 ≤ dd) (m : Mem) (j : Nat) (S : PS) (hj : j < 6) (hI : Inv m) (hS : InvS kC S) (hB : CB (bk m (2 + j)) S) (hlo : m 20 0 0 2 ≠ 0 → 0 ≤ m 20 0 0 1 ∧ m 20 0 0 1 ≤ 32799920000) : T E dd mX7_tryFrom 76 [some (rf E 20 0 0), none, some (rf E 10 j 0), none, none, none] [] (hp E (wrC m j S)) (fun r' h' => r' = none ∧ h' = hp E (weM (wrC m j (runToS (bk m (2 + j)) S (m 20 0 0 6))) (owedL (bk m (2 + j)) (runToS (bk m (2 + j)) S (m 20 0 0 6)) (m 1 (2 + j) 0 1).toNat))) := by
  have qy : 0 ≤ m 20 0 0 6 ∧ m 20 0 0 6 ≤ 299 := hI 20 0 0 6
  have qn : 0 ≤ m 1 (2 + j) 0 1 ∧ m 1 (2 + j) 0 1 ≤ 8 := hI 1 (2 + j) 0 1
  refine T.aload_n dX7_tryFrom_76 rfl ?_
  refine T.aload_n dX7_tryFrom_77 rfl ?_
  refine T.gI (z := m 20 0 0 6) dX7_tryFrom_78 fo_X7_36 ok20 rfl rfl rfl ?_
  have q1 : 0 ≤ m 20 0 0 6 ∧ m 20 0 0 6 ≤ 299 := hI 20 0 0 6
  refine T.cV0 (As := [.int (iI (m 20 0 0 6))]) (st := []) dX7_tryFrom_81 lk_X7_61 (c_runTo E m j S (m 20 0 0 6) hj hI hS (rt_of hI _) hB (by omega)) (ok10 (by omega)) rfl rfl (by omega) rfl rfl (Nat.le_of_ble_eq_true rfl) ?_
  have hr1 := runToS_inv hS (rt_of hI (2 + j)) hB (show (m 20 0 0 6) ≤ 299 by omega)
  have hob := owedL_bd (β := (bk m (2 + j))) hr1.1 (m 1 (2 + j) 0 1).toNat
  refine T.aload_n dX7_tryFrom_84 rfl ?_
  refine T.aload_n dX7_tryFrom_85 rfl ?_
  refine T.cV1 (As := []) (st := [rf E 20 0 0]) dX7_tryFrom_86 lk_X7_64 (c_owedNow E m j (runToS (bk m (2 + j)) S (m 20 0 0 6)) hj hI hr1.1) (ok10 (by omega)) rfl rfl (by omega) rfl rfl (Nat.le_of_ble_eq_true rfl) ?_
  refine T.cV0 (As := [.long (lI (owedL (bk m (2 + j)) (runToS (bk m (2 + j)) S (m 20 0 0 6)) (m 1 (2 + j) 0 1).toNat))]) (st := []) dX7_tryFrom_89 lk_X7_68 (c_weigh E (wrC m j (runToS (bk m (2 + j)) S (m 20 0 0 6))) (owedL (bk m (2 + j)) (runToS (bk m (2 + j)) S (m 20 0 0 6)) (m 1 (2 + j) 0 1).toNat) (hI.wrC hr1.1) (by omega) hlo) ok20 rfl rfl (by omega) rfl rfl (Nat.le_of_ble_eq_true rfl) ?_
  exact T.vret dX7_tryFrom_92 ⟨rfl, rfl⟩
/-- what a search leaves as it was: courses below a, payments of books below b .. -/
def TFr (a b : Nat) (m m' : Mem) : Prop := (∀ k j i, kC k = true → j < a → m' k j i = m k j i) ∧ (∀ j i, j < b → m' 7 j i = m 7 j i) ∧ (∀ k, k < 10 → k ≠ 7 → m' k = m k) ∧ (∀ k, 22 < k → m' k = m k) ∧ ∀ x, x ≠ 1 → x ≠ 2 → m' 20 0 0 x = m 20 0 0 x
theorem TFr.rf {a b : Nat} {m : Mem} : TFr a b m m := ⟨fun _ _ _ _ _ => rfl, fun _ _ _ => rfl, fun _ _ _ => rfl, fun _ _ => rfl, fun _ _ _ => rfl⟩
theorem TFr.tr {a b : Nat} {x y z : Mem} (h : TFr a b x y) (g : TFr a b y z) : TFr a b x z := ⟨fun k j i h1 h2 => (g.1 k j i h1 h2).trans (h.1 k j i h1 h2), fun j i h1 => (g.2.1 j i h1).trans (h.2.1 j i h1), fun k h1 h2 => (g.2.2.1 k h1 h2).trans (h.2.2.1 k h1 h2), fun k h1 => (g.2.2.2.1 k h1).trans (h.2.2.2.1 k h1), fun x h1 h2 => (g.2.2.2.2 x h1 h2).trans (h.2.2.2.2 x h1 h2)⟩
theorem TFr.less {a b a' b' : Nat} {x y : Mem} (h : TFr a b x y) (ha : a' ≤ a) (hb : b' ≤ b) : TFr a' b' x y := ⟨fun k j i h1 h2 => h.1 k j i h1 (by omega), fun j i h1 => h.2.1 j i (by omega), h.2.2⟩
theorem wrC_fr {a b j : Nat} {m : Mem} {S : PS} (h : a ≤ j) : TFr a b m (wrC m j S) := by
  refine ⟨fun k j' i hk hj => wrC_j (by omega), fun j' i _ => wrC_d rfl, fun k hk _ => ?_, fun k hk => ?_, fun x _ _ => by rw [wrC_d rfl]⟩
  · funext j' i'; exact wrC_d (by unfold kC; simp; omega)
  · funext j' i'; exact wrC_d (by unfold kC; simp; omega)
theorem weM_fr {a b : Nat} {M : Mem} {ow : Int} : TFr a b M (weM M ow) := by
  unfold weM
  split
  · refine ⟨fun k j i hk _ => ?_, fun j i _ => ?_, fun k hk _ => ?_, fun k hk => ?_, fun x h1 h2 => ?_⟩
    · have : 10 ≤ k ∧ k ≤ 19 := by unfold kC at hk; simpa using hk
      rw [cpS_o (by omega), up_o (by omega), up_o (by omega)]
    · rw [cpS_o (by omega), up_o (by omega), up_o (by omega)]
    · funext j i; rw [cpS_o (by omega), up_o (by omega), up_o (by omega)]
    · funext j i; rw [cpS_o (by omega), up_o (by omega), up_o (by omega)]
    · rw [cpS_o (by omega)]; simp [up, h1, h2]
  · exact TFr.rf
theorem weM_inv {M : Mem} {ow : Int} (h : Inv M) : Inv (weM M ow) := by
  unfold weM
  split
  · have h1 : Inv (up (up M 20 0 0 2 1) 20 0 0 1 ow) := (h.up (by show 0 ≤ _ ∧ _ ≤ (1 : Int); omega)).up (by show True; trivial)
    intro k j i x
    unfold cpS updS
    split
    · rename_i e
      obtain ⟨rfl, rfl, rfl⟩ := e
      show -1 ≤ _ ∧ _ ≤ (7 : Int)
      dsimp only
      split
      · exact h1 22 0 0 x
      · exact h1 21 0 0 x
    · exact h1 k j i x
  · exact h
def LO (m : Mem) : Prop := m 20 0 0 2 ≠ 0 → 0 ≤ m 20 0 0 1 ∧ m 20 0 0 1 ≤ 32799920000
theorem weM_lo {M : Mem} {ow : Int} (h : LO M) (how : 0 ≤ ow ∧ ow ≤ 32799920000) : LO (weM M ow) := by
  unfold weM
  split
  · intro _
    rw [cpS_o (by omega), up_self]
    exact how
  · exact h
/-- books of the search have as many debts -/
def CN (m : Mem) : Prop := ∀ b, 4 ≤ b → b < 8 → m 1 b 0 1 = m 1 4 0 1
theorem CN.fr {p q : Nat} {a b : Mem} (h : CN a) (g : TFr p q a b) : CN b := by
  intro x h1 h2
  rw [g.2.2.1 1 (by decide) (by decide)]
  exact h x h1 h2
theorem tfR_inv {m : Mem} {j : Nat} {y : Int} (hI : Inv m) (hB : CB (bk m (2 + j)) (cs m j)) (hy : y ≤ 299) : InvS kC (tfR m j y) ∧ CB (bk m (2 + j)) (tfR m j y) := by
  have qc : 0 ≤ m 20 0 0 5 ∧ m 20 0 0 5 ≤ 3 := hI 20 0 0 5
  have h1 := atL_inv (b := 2 + j) (q := 16 + j) (y := m 20 0 0 6) hI qc.1 12 (cs m j) (hI.S kC j) hB
  exact runToS_inv h1.1 (rt_of hI _) h1.2 hy
theorem tfE_ok {a b j : Nat} {m : Mem} (hI : Inv m) (hB : CB (bk m (2 + j)) (cs m j)) (hl : LO m) (hj : a ≤ j) : Inv (tfE m j) ∧ LO (tfE m j) ∧ TFr a b m (tfE m j) := by
  have qy : 0 ≤ m 20 0 0 6 ∧ m 20 0 0 6 ≤ 299 := hI 20 0 0 6
  have qn : 0 ≤ m 1 (2 + j) 0 1 ∧ m 1 (2 + j) 0 1 ≤ 8 := hI 1 (2 + j) 0 1
  have h1 := tfR_inv hI hB qy.2
  have h2 := owedL_bd (β := bk m (2 + j)) h1.1 (m 1 (2 + j) 0 1).toNat
  exact ⟨weM_inv (hI.wrC h1.1), weM_lo hl (by omega), (wrC_fr hj).tr weM_fr⟩
theorem swS_inv {S T : PS} (hS : InvS kC S) (hT : InvS kC T) : InvS kC (swS S T) := by
  unfold swS
  refine ((((((hS.up (hT 10 2 rfl)).up (hT 10 3 rfl)).set ?_).set ?_).set ?_).set ?_).set ?_ <;> (intro x; split) <;> first | exact hT _ x rfl | exact hS _ x rfl
theorem swS_cb {β β' S T : PS} (hn : (β' 12 0).toNat = (β 12 0).toNat) (h8 : (β 12 0).toNat ≤ 8) (hB : CB β T) : CB β' (swS S T) := by
  intro d hd
  rw [hn] at hd
  have h1 := hB d hd
  show (if d < 8 then T 11 d else S 11 d) + (if d < 8 then T 12 d else S 12 d) ≤ bnd (T 10 2).toNat
  rw [if_pos (by omega), if_pos (by omega)]
  exact h1
theorem tfD_inv {D : Mem} {j nx : Nat} {b : Int} (h : Inv D) (hb : -1 ≤ b ∧ b ≤ 7) : Inv (tfD D j nx b) := by
  have h1 : Inv (up D 22 0 0 nx b) := h.up hb
  exact h1.up hb
theorem tfW_inv {D : Mem} {j nx : Nat} {b : Int} (h : Inv D) (hb : -1 ≤ b ∧ b ≤ 7) : InvS kC (tfW D j nx b) := by
  have h1 : Inv (up D 22 0 0 nx b) := h.up hb
  exact swS_inv (h1.S kC _) (h1.S kC _)
theorem tfD_fr {D : Mem} {j nx p q : Nat} {b : Int} (hp : p ≤ j + 1) (hq : q ≤ 2 + (j + 1)) : TFr p q D (tfD D j nx b) := by
  refine ⟨fun k j' i hk hj' => ?_, fun j' i h => ?_, fun k h1 h2 => ?_, fun k h1 => ?_, fun x h1 h2 => ?_⟩
  · have : 10 ≤ k ∧ k ≤ 19 := by unfold kC at hk; simpa using hk
    unfold tfD
    rw [up_o (by omega), up_o (by omega)]
  · unfold tfD
    rw [up_o (by omega), up_o (by omega)]
  · funext j' i
    unfold tfD
    rw [up_o (by omega), up_o (by omega)]
  · funext j' i
    unfold tfD
    rw [up_o (by omega), up_o (by omega)]
  · unfold tfD
    rw [up_o (by omega), up_o (by omega)]
theorem tfD_lo {D : Mem} {j nx : Nat} {b : Int} (h : LO D) : LO (tfD D j nx b) := h
theorem tfS_ok {D : Mem} {j nx : Nat} {b : Int} (hI : Inv D) (hb : -1 ≤ b ∧ b ≤ 7) (hB : CB (bk D (2 + j)) (cs D j)) (hC : CN D) (hl : LO D) (hj : 2 ≤ j ∧ j ≤ 4) (hnx : nx < 12) : Inv (tfS D j nx b) ∧ LO (tfS D j nx b) ∧ TFr (j + 1) (j + 3) D (tfS D j nx b) ∧ CN (tfS D j nx b) ∧ CB (bk (tfS D j nx b) (2 + (j + 1))) (cs (tfS D j nx b) (j + 1)) := by
  have i1 := tfD_inv (j := j) (nx := nx) hI hb
  have f1 : TFr (j + 1) (j + 3) D (tfD D j nx b) := tfD_fr (by omega) (by omega)
  have e1 : tfD D j nx b 1 = D 1 := f1.2.2.1 1 (by decide) (by decide)
  have hcb : CB (bk (tfD D j nx b) (2 + (j + 1))) (tfW D j nx b) := by
    refine swS_cb (β := bk D (2 + j)) ?_ (n8_of hI _) hB
    show (tfD D j nx b 1 (2 + (j + 1)) 0 1).toNat = (D 1 (2 + j) 0 1).toNat
    rw [e1, hC (2 + (j + 1)) (by omega) (by omega), hC (2 + j) (by omega) (by omega)]
  have t1 := take_inv (q := 16 + (j + 1)) (p := nx) i1 (tfW_inv hI hb) hcb hnx
  have f2 : TFr (j + 1) (j + 3) (tfD D j nx b) (tfS D j nx b) := wrC_fr (by omega)
  refine ⟨i1.wrC t1.1, hl, f1.tr f2, hC.fr (f1.tr f2), ?_⟩
  intro d hd
  have h3 := t1.2 d hd
  show wrC _ _ _ 11 (j + 1) 0 d + wrC _ _ _ 12 (j + 1) 0 d ≤ bnd (wrC _ _ _ 10 (j + 1) 0 2).toNat
  rw [wrC_c rfl, wrC_c rfl, wrC_c rfl]
  exact h3
/-- what a search needs -/
def TF (m : Mem) (j : Nat) : Prop := Inv m ∧ LO m ∧ CN m ∧ CB (bk m (2 + j)) (cs m j)
theorem bk_fr {p q : Nat} {a b : Mem} {x : Nat} (g : TFr p q a b) (hx : x < q) : bk b x = bk a x := by
  funext f d
  unfold bk
  rw [g.2.2.1 5 (by decide) (by decide), g.2.2.1 6 (by decide) (by decide), g.2.2.1 1 (by decide) (by decide), g.2.1 x d hx]
theorem lw_fr {p q : Nat} {a b : Mem} {x : Nat} (g : TFr p q a b) : lw b x = lw a x := by
  funext f d
  unfold lw
  rw [g.2.2.1 8 (by decide) (by decide), g.2.2.1 9 (by decide) (by decide)]
theorem cs_fr {p q : Nat} {a b : Mem} {j k : Nat} (g : TFr p q a b) (hj : j < p) (hk : kC k = true) : cs b j k = cs a j k := g.1 k j 0 hk hj
theorem tfK_ok {T : Mem → Mem} {j nx : Nat} {b : Int} {D : Mem} (hj : 2 ≤ j ∧ j ≤ 4) (hnx : nx < 12) (hT : ∀ m, TF m (j + 1) → Inv (T m) ∧ LO (T m) ∧ TFr (j + 1) (j + 4) m (T m)) (hb : -1 ≤ b ∧ b ≤ 7) (h : TF D j) : TF (T (tfS D j nx b)) j ∧ TFr (j + 1) (j + 3) D (T (tfS D j nx b)) := by
  obtain ⟨k1, k2, k3, k4⟩ := h
  obtain ⟨s1, s2, s3, s4, s5⟩ := tfS_ok (nx := nx) (b := b) k1 hb k4 k3 k2 hj hnx
  obtain ⟨t1, t2, t3⟩ := hT _ ⟨s1, s2, s4, s5⟩
  have fr := s3.tr (t3.less (Nat.le_refl _) (by omega))
  refine ⟨⟨t1, t2, k3.fr fr, ?_⟩, fr⟩
  intro d hd
  rw [bk_fr fr (by omega)] at hd
  have := k4 d hd
  show T _ 11 j 0 d + T _ 12 j 0 d ≤ bnd (T _ 10 j 0 2).toNat
  rw [fr.1 11 j 0 rfl (by omega), fr.1 12 j 0 rfl (by omega), fr.1 10 j 0 rfl (by omega)]
  exact this
theorem tfL_ok {T : Mem → Mem} {j nx : Nat} (hj : 2 ≤ j ∧ j ≤ 4) (hnx : nx < 12) (hT : ∀ m, TF m (j + 1) → Inv (T m) ∧ LO (T m) ∧ TFr (j + 1) (j + 4) m (T m)) : ∀ (f : Nat) (b : Int) (D : Mem), -1 ≤ b → b + f ≤ 8 → TF D j → TF (tfL T j nx f b D) j ∧ TFr (j + 1) (j + 3) D (tfL T j nx f b D)
  | 0, b, D, _, _, h => ⟨h, TFr.rf⟩
  | f + 1, b, D, h1, h2, h => by
    have key : TF (if tfH D j b then T (tfS D j nx b) else D) j ∧ TFr (j + 1) (j + 3) D (if tfH D j b then T (tfS D j nx b) else D) := by
      split
      · exact tfK_ok hj hnx hT (by omega) h
      · exact ⟨h, TFr.rf⟩
    have i1 := tfL_ok (nx := nx) hj hnx hT f (b + 1) _ (by omega) (by omega) key.1
    exact ⟨i1.1, key.2.tr i1.2⟩
theorem tfB_ok {m : Mem} {j b : Nat} (h : TF m j) : TF (tfB m j) j ∧ TFr j b m (tfB m j) := by
  obtain ⟨k1, k2, k3, k4⟩ := h
  have qd : 0 ≤ m 7 (2 + j) (tfN m j).toNat 0 ∧ m 7 (2 + j) (tfN m j).toNat 0 ≤ 299 := k1 7 _ _ 0
  have h1 := tfR_inv (y := m 7 (2 + j) (tfN m j).toNat 0) k1 k4 qd.2
  have fr : TFr j b m (tfB m j) := wrC_fr (Nat.le_refl _)
  refine ⟨⟨k1.wrC h1.1, k2, k3.fr fr, ?_⟩, fr⟩
  intro d hd
  have h3 := h1.2 d hd
  show wrC _ _ _ 11 j 0 d + wrC _ _ _ 12 j 0 d ≤ bnd (wrC _ _ _ 10 j 0 2).toNat
  rw [wrC_c rfl, wrC_c rfl, wrC_c rfl]
  exact h3
theorem tfN_rg {m : Mem} {j : Nat} (hI : Inv m) : -1 ≤ tfN m j ∧ tfN m j ≤ 11 := nextS_rg (n13_of hI _)
theorem tfM_ok : ∀ (r : Nat) (m : Mem), r ≤ 3 → TF m (5 - r) → Inv (tfM r m) ∧ LO (tfM r m) ∧ TFr (5 - r) (8 - r) m (tfM r m)
  | 0, m, _, h => tfE_ok h.1 h.2.2.2 h.2.1 (by omega)
  | r + 1, m, hr, h => by
    have e5 : 5 - (r + 1) = 4 - r := by omega
    rw [e5] at h ⊢
    have hx := tfN_rg (j := 4 - r) h.1
    have hn : 0 ≤ m 1 (2 + (4 - r)) 0 1 ∧ m 1 (2 + (4 - r)) 0 1 ≤ 8 := h.1 1 _ 0 1
    unfold tfM
    split
    · exact tfE_ok h.1 h.2.2.2 h.2.1 (by omega)
    · have hb := tfB_ok (b := 8 - (r + 1)) h
      have hl := tfL_ok (T := tfM r) (j := 4 - r) (nx := (tfN m (4 - r)).toNat) (by omega) (by omega) (fun m hm => by
        have e6 : 4 - r + 1 = 5 - r := by omega
        rw [e6] at hm ⊢
        have := tfM_ok r m (by omega) hm
        rw [show 4 - r + 4 = 8 - r by omega]
        exact this) (m 1 (2 + (4 - r)) 0 1 + 1).toNat (-1) _ (by omega) (by omega) hb.1
      exact ⟨hl.1.1, hl.1.2.1, hb.2.tr (hl.2.less (by omega) (by omega))⟩
