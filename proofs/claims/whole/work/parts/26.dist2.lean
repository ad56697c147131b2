set_option maxHeartbeats 4000000 in
set_option maxRecDepth 100000 in
theorem c_dist40 (E : Ev) (m : Mem) (j : Nat) (S : PS) (hj : j < 6) (hI : Inv m) (hS : InvS kC S) (ov : Int) (ho : -1000000000000 ≤ ov ∧ ov ≤ 1000000000) : T E 4 mX1_distribute 40 [some (rf E 10 j 0), none, none, none, some (.long (lI ov)), none, none, none, none, none] [] (hp E (wrC m j S)) (fun r' h' => r' = none ∧ h' = hp E (wrC m j (upT (tl40 (bk m (2 + j)) (lw m (16 + j)) S ov).1 10 13 (tl40 (bk m (2 + j)) (lw m (16 + j)) S ov).2))) := by
  have hn8 : 0 ≤ m 1 (2 + j) 0 1 ∧ m 1 (2 + j) 0 1 ≤ 8 := hI 1 (2 + j) 0 1
  have hb8 : ((bk m (2 + j)) 12 0).toNat ≤ 8 := by show (m 1 (2 + j) 0 1).toNat ≤ 8; omega
  have ho8 : (ordS (bk m (2 + j)) (lw m (16 + j)) S).1 ≤ ((bk m (2 + j)) 12 0).toNat := ordL_n _
  have hS2 : InvS kC (setT S 17 (ordS (bk m (2 + j)) (lw m (16 + j)) S).2) := hS.set (ordL_rg (fun x => hS 17 x rfl) _ hb8)
  refine T.lload dX1_distribute_40 rfl ?_
  refine T.lconst0 dX1_distribute_42 ?_
  refine T.lcmp_le 54 dX1_distribute_43 dX1_distribute_44 (by unfold rl; omega) (by unfold rl; omega) (fun c1 => ?_) (fun c1 => ?_)
  · refine T.iconst dX1_distribute_54 ?_
    refine T.istore (ls' := [some (rf E 10 j 0), none, none, none, some (.long (lI ov)), none, some (.int (iI 0)), none, none, none]) dX1_distribute_55 rfl ?_
    refine T.aload_n dX1_distribute_57 rfl ?_
    refine T.mget (v := rf E 8 (16 + j) 0) dX1_distribute_58 fo_X1_21 (ok10 (by omega)) rfl rfl ?_
    refine T.bipush dX1_distribute_61 ?_
    refine T.cV1 (As := [.int (iI 112)]) (st := []) dX1_distribute_63 lk_X1_160 (show CT E 1 mX3_has _ _ (some (.int (iI (bZ (hasB (lw m (16 + j)) 112))))) _ from c_has E (wrC m j S) (16 + j) 112 (by omega) (by decide) (hI.wrC hS)) (ok8 (by omega)) rfl rfl (by decide) rfl rfl (Nat.le_of_ble_eq_true rfl) ?_
    refine T.istore (ls' := [some (rf E 10 j 0), none, none, none, some (.long (lI ov)), none, some (.int (iI 0)), some (.int (iI (bZ (hasB (lw m (16 + j)) 112)))), none, none]) dX1_distribute_66 rfl ?_
    refine T.iconst dX1_distribute_68 ?_
    refine T.istore (ls' := [some (rf E 10 j 0), none, none, none, some (.long (lI ov)), none, some (.int (iI 0)), some (.int (iI (bZ (hasB (lw m (16 + j)) 112)))), none, some (.int (iI 0))]) dX1_distribute_69 rfl ?_
    rw [show tl40 (bk m (2 + j)) (lw m (16 + j)) S ov = (S, ov) from by unfold tl40; rw [if_neg (by omega)]]
    exact c_dist_lp E m j hj hI 0 (by omega) 0 0 S ov hS (by omega) (by omega) (by omega)
  · refine T.aload_n dX1_distribute_47 rfl ?_
    refine T.cV1 (As := []) (st := []) dX1_distribute_48 lk_X1_209 (c_orderOpen E m j S hj hI hS) (ok10 (by omega)) rfl rfl (by decide) rfl rfl (Nat.le_of_ble_eq_true rfl) ?_
    refine T.goto 55 dX1_distribute_51 ?_
    refine T.istore (ls' := [some (rf E 10 j 0), none, none, none, some (.long (lI ov)), none, some (.int (iI ((ordS (bk m (2 + j)) (lw m (16 + j)) S).1 : Int))), none, none, none]) dX1_distribute_55 rfl ?_
    refine T.aload_n dX1_distribute_57 rfl ?_
    refine T.mget (v := rf E 8 (16 + j) 0) dX1_distribute_58 fo_X1_21 (ok10 (by omega)) rfl rfl ?_
    refine T.bipush dX1_distribute_61 ?_
    refine T.cV1 (As := [.int (iI 112)]) (st := []) dX1_distribute_63 lk_X1_160 (show CT E 1 mX3_has _ _ (some (.int (iI (bZ (hasB (lw m (16 + j)) 112))))) _ from c_has E (wrC m j (setT S 17 (ordS (bk m (2 + j)) (lw m (16 + j)) S).2)) (16 + j) 112 (by omega) (by decide) (hI.wrC hS2)) (ok8 (by omega)) rfl rfl (by decide) rfl rfl (Nat.le_of_ble_eq_true rfl) ?_
    refine T.istore (ls' := [some (rf E 10 j 0), none, none, none, some (.long (lI ov)), none, some (.int (iI ((ordS (bk m (2 + j)) (lw m (16 + j)) S).1 : Int))), some (.int (iI (bZ (hasB (lw m (16 + j)) 112)))), none, none]) dX1_distribute_66 rfl ?_
    refine T.iconst dX1_distribute_68 ?_
    refine T.istore (ls' := [some (rf E 10 j 0), none, none, none, some (.long (lI ov)), none, some (.int (iI ((ordS (bk m (2 + j)) (lw m (16 + j)) S).1 : Int))), some (.int (iI (bZ (hasB (lw m (16 + j)) 112)))), none, some (.int (iI 0))]) dX1_distribute_69 rfl ?_
    rw [show tl40 (bk m (2 + j)) (lw m (16 + j)) S ov = dsL (bk m (2 + j)) (lw m (16 + j)) (ordS (bk m (2 + j)) (lw m (16 + j)) S).1 (ordS (bk m (2 + j)) (lw m (16 + j)) S).1 0 (setT S 17 (ordS (bk m (2 + j)) (lw m (16 + j)) S).2) ov from by unfold tl40; rw [if_pos (by omega)]]
    exact c_dist_lp E m j hj hI (ordS (bk m (2 + j)) (lw m (16 + j)) S).1 (by omega) (ordS (bk m (2 + j)) (lw m (16 + j)) S).1 0 (setT S 17 (ordS (bk m (2 + j)) (lw m (16 + j)) S).2) ov hS2 (by omega) (by omega) (by omega)
set_option maxHeartbeats 4000000 in
set_option maxRecDepth 100000 in
theorem c_dist (E : Ev) (m : Mem) (j : Nat) (S : PS) (a c : Int) (hj : j < 6) (hI : Inv m) (hS : InvS kC S) (ha : 0 ≤ a ∧ a ≤ 1000000000) (hc : -1 ≤ c ∧ c ≤ 7) : CT E 4 mX1_distribute [rf E 10 j 0, .long (lI a), .int (iI c)] (hp E (wrC m j S)) (none) (hp E (wrC m j (distS (bk m (2 + j)) (lw m (16 + j)) S a c))) := by
  refine CT.go okX1_distribute (Nat.le_of_ble_eq_true rfl) ?_
  show T E 4 mX1_distribute 0 [some (rf E 10 j 0), some (.long (lI a)), none, some (.int (iI c)), none, none, none, none, none, none] [] (hp E (wrC m j S)) _
  have hS0 : InvS kC (dist0 (bk m (2 + j)) S) := dist0_inv hS
  have hgb := giveR_bd c.toNat a hS0
  refine T.aload_n dX1_distribute_0 rfl ?_
  refine T.mget (v := rf E 18 j 0) dX1_distribute_1 fo_X1_56 (ok10 (by omega)) rfl rfl ?_
  refine T.lconst0 dX1_distribute_4 ?_
  refine T.cS0 (As := [rf E 18 j 0, .long (lI 0)]) (st := []) dX1_distribute_5 lk_X1_196 (by have h0 := c_fillL E (wrC m j S) 18 j 0 8 0 (ok18 hj) (fun _ => rfl) (by decide); rw [updS_wrC rfl, wrC_cf rfl] at h0; exact h0) (by decide) rfl rfl (Nat.le_of_ble_eq_true rfl) ?_
  refine T.aload_n dX1_distribute_8 rfl ?_
  refine T.mget (v := rf E 19 j 0) dX1_distribute_9 fo_X1_59 (ok10 (by omega)) rfl rfl ?_
  refine T.lconst0 dX1_distribute_12 ?_
  refine T.cS0 (As := [rf E 19 j 0, .long (lI 0)]) (st := []) dX1_distribute_13 lk_X1_196 (by have h0 := c_fillL E (wrC m j (setT S 18 (fil0 (S 18) 8 0))) 19 j 0 8 0 (ok19 hj) (fun _ => rfl) (by decide); rw [updS_wrC rfl, wrC_cf rfl] at h0; exact h0) (by decide) rfl rfl (Nat.le_of_ble_eq_true rfl) ?_
  refine T.aload_n dX1_distribute_16 rfl ?_
  refine T.cV0 (As := []) (st := []) dX1_distribute_17 lk_X1_202 (c_findDead E m j (setT (setT S 18 (fil0 (S 18) 8 0)) 19 (fil0 (S 19) 8 0)) hj hI (InvS.set (k := 19) (InvS.set (k := 18) hS (fun _ => trivial)) (fun _ => trivial))) (ok10 (by omega)) rfl rfl (by decide) rfl rfl (Nat.le_of_ble_eq_true rfl) ?_
  refine T.lload_n dX1_distribute_20 rfl ?_
  refine T.lstore (ls' := [some (rf E 10 j 0), some (.long (lI a)), none, some (.int (iI c)), some (.long (lI a)), none, none, none, none, none]) dX1_distribute_21 rfl ?_
  refine T.iload_n dX1_distribute_23 rfl ?_
  refine T.iconst dX1_distribute_24 ?_
  refine T.icmp_eq 40 dX1_distribute_25 (by unfold rg; omega) (by unfold rg; omega) (fun c1 => ?_) (fun c1 => ?_)
  · refine T.fgt (ls' := [some (rf E 10 j 0), none, none, none, some (.long (lI a)), none, none, none, none, none]) (by simp [lsw]) ?_
    rw [distS_40, show (dist1 (bk m (2 + j)) (lw m (16 + j)) S a c) = ((dist0 (bk m (2 + j)) S), a) from by unfold dist1; rw [if_pos (by omega)]]
    exact c_dist40 E m j (dist0 (bk m (2 + j)) S) hj hI hS0 a (by omega)
  · refine T.lload dX1_distribute_28 rfl ?_
    refine T.aload_n dX1_distribute_30 rfl ?_
    refine T.iload_n dX1_distribute_31 rfl ?_
    refine T.lload dX1_distribute_32 rfl ?_
    refine T.cV1 (As := [.int (iI c), .long (lI a)]) (st := [.long (lI a)]) dX1_distribute_34 lk_X1_205 (by have h0 := c_give E m j (dist0 (bk m (2 + j)) S) c.toNat a hj hI hS0 (by omega) (by omega); rw [show ((c.toNat : Nat) : Int) = c from by omega] at h0; exact h0) (ok10 (by omega)) rfl rfl (by decide) rfl rfl (Nat.le_of_ble_eq_true rfl) ?_
    refine T.lsub dX1_distribute_37 ?_
    refine T.lstore (ls' := [some (rf E 10 j 0), some (.long (lI a)), none, some (.int (iI c)), some (.long (lI (a - (giveR (dist0 (bk m (2 + j)) S) c.toNat a)))), none, none, none, none, none]) dX1_distribute_38 rfl ?_
    refine T.fgt (ls' := [some (rf E 10 j 0), none, none, none, some (.long (lI (a - (giveR (dist0 (bk m (2 + j)) S) c.toNat a)))), none, none, none, none, none]) (by simp [lsw]) ?_
    rw [distS_40, show (dist1 (bk m (2 + j)) (lw m (16 + j)) S a c) = (giveS (lw m (16 + j)) (dist0 (bk m (2 + j)) S) c.toNat a, a - giveR (dist0 (bk m (2 + j)) S) c.toNat a) from by unfold dist1; rw [if_neg (by omega)]]
    exact c_dist40 E m j (giveS (lw m (16 + j)) (dist0 (bk m (2 + j)) S) c.toNat a) hj hI (giveS_inv _ _ hS0) (a - giveR (dist0 (bk m (2 + j)) S) c.toNat a) (by omega)
def bnd : Nat → Int
  | 0 => 99990000
  | t + 1 => bnd t + bnd t / 100
theorem bnd_mono : ∀ a b, a ≤ b → bnd a ≤ bnd b ∧ 0 ≤ bnd a := by
  intro a b h
  induction b with
  | zero => have : a = 0 := by omega
            subst this; exact ⟨Int.le_refl _, by decide⟩
  | succ b ih =>
    by_cases h2 : a ≤ b
    · obtain ⟨i1, i2⟩ := ih h2
      refine ⟨?_, i2⟩
      show bnd a ≤ bnd b + bnd b / 100
      omega
    · have : a = b + 1 := by omega
      subst this
      refine ⟨Int.le_refl _, ?_⟩
      clear ih h h2
      induction b with
      | zero => decide
      | succ b ih => unfold bnd; omega
theorem bnd_299 : bnd 299 ≤ 4000000000 := by decide +kernel
theorem rate_bd {s r rate B : Int} (h0 : 0 ≤ s) (h1 : 0 ≤ r) (h2 : s + r ≤ B) (h3 : 0 ≤ rate) (h4 : rate ≤ 99) : 0 ≤ (s + r) * rate / 10000 ∧ (s + r) * rate / 10000 ≤ B / 100 := by
  have a1 := mul_bd (by omega : 0 ≤ s + r) h2 h3 h4
  refine ⟨Int.ediv_nonneg a1.1 (by decide), ?_⟩
  have : (s + r) * rate ≤ B * 100 := Int.le_trans a1.2 (by omega)
  have h5 : (s + r) * rate / 10000 ≤ B * 100 / 10000 := Int.ediv_le_ediv (by decide) this
  omega
theorem runI_bd {s r rate : Int} {t : Nat} (h0 : 0 ≤ s) (h1 : 0 ≤ r) (h2 : s + r ≤ bnd t) (h3 : 0 ≤ rate) (h4 : rate ≤ 99) : ∀ n : Nat, 0 ≤ runI s r rate n ∧ s + runI s r rate n ≤ bnd (t + n)
  | 0 => ⟨h1, h2⟩
  | n + 1 => by
    obtain ⟨i1, i2⟩ := runI_bd h0 h1 h2 h3 h4 n
    have := rate_bd h0 i1 i2 h3 h4
    unfold runI
    show _ ∧ _ ≤ bnd (t + n) + bnd (t + n) / 100
    omega
theorem runM_bd {s r rate : Int} {t : Nat} (h0 : 0 ≤ s) (h1 : 0 ≤ r) (h2 : s + r ≤ bnd t) (h3 : 0 ≤ rate) (h4 : rate ≤ 99) : ∀ n : Nat, 0 ≤ r + s * rate / 10000 * n ∧ s + (r + s * rate / 10000 * n) ≤ bnd (t + n)
  | 0 => ⟨by omega, by simpa using h2⟩
  | n + 1 => by
    obtain ⟨i1, i2⟩ := runM_bd h0 h1 h2 h3 h4 n
    have a0 := rate_bd (r := 0) h0 (Int.le_refl 0) (by rw [Int.add_zero]; have := mul_bd (A := 0) (B := 0) (a := 0) (b := 0) (by omega) (by omega) (by omega) (by omega); exact Int.le_trans (by omega : s ≤ s + (r + s * rate / 10000 * n)) i2) h3 h4
    rw [Int.add_zero] at a0
    show _ ∧ _ ≤ bnd (t + n) + bnd (t + n) / 100
    have e : s * rate / 10000 * ((n + 1 : Nat) : Int) = s * rate / 10000 * n + s * rate / 10000 := by rw [Int.natCast_add, Int.mul_add]; simp
    rw [e]
    omega
set_option maxHeartbeats 4000000 in
set_option maxRecDepth 100000 in
theorem c_runOn_loop (E : Ev) (m : Mem) (j : Nat) (S : PS) (hj : j < 6) (hI : Inv m) (hS : InvS kC S) (d : Nat) (hd : d < 8) (days : Int) (hds : 0 ≤ days ∧ days ≤ 1000) (t : Nat) (hB : S 11 d + S 12 d ≤ bnd t) (ht : t + days.toNat ≤ 299) : ∀ (kk : Nat) (k : Nat), days.toNat - k = kk → k ≤ days.toNat → T E 1 mX1_runOn 78 [some (rf E 10 j 0), some (.int (iI (d : Int))), some (.int (iI days)), some (.int (iI (m 6 (2 + j) d 4))), some (.long (lI (runI (S 11 d) (S 12 d) (m 6 (2 + j) d 4) k))), none, some (.int (iI (k : Int)))] [] (hp E (wrC m j S)) (fun r' h' => r' = none ∧ h' = hp E (wrC m j (upT S 12 d (runI (S 11 d) (S 12 d) (m 6 (2 + j) d 4) days.toNat)))) := by
  have q1 : 0 ≤ S 11 d ∧ S 11 d ≤ 99990000 := hS 11 d rfl
  have q2 : 0 ≤ S 12 d ∧ S 12 d ≤ 4000000000 := hS 12 d rfl
  have q3 : 0 ≤ m 6 (2 + j) d 4 ∧ m 6 (2 + j) d 4 ≤ 99 := hI 6 (2 + j) d 4
  have y1 := mul_bd q1.1 q1.2 q3.1 q3.2
  intro kk
  induction kk using Nat.strongRecOn with
  | ind kk ih =>
    intro k hk hkd
    have y2 := runI_bd q1.1 q2.1 hB q3.1 q3.2 k
    have y4 := (bnd_mono (t + k) 299 (by omega)).1
    have y5 := bnd_299
    have y3 := mul_bd (by omega : 0 ≤ S 11 d + runI (S 11 d) (S 12 d) (m 6 (2 + j) d 4) k) (by omega : S 11 d + runI (S 11 d) (S 12 d) (m 6 (2 + j) d 4) k ≤ 4000000000) q3.1 q3.2
    refine T.iload dX1_runOn_78 rfl ?_
    refine T.iload_n dX1_runOn_80 rfl ?_
    refine T.icmp_ge 111 dX1_runOn_81 (by unfold rg; omega) (by unfold rg; omega) (fun c1 => ?_) (fun c1 => ?_)
    · refine T.aload_n dX1_runOn_111 rfl ?_
      refine T.mget (v := rf E 12 j 0) dX1_runOn_112 fo_X1_36 (ok10 (by omega)) rfl rfl ?_
      refine T.iload_n dX1_runOn_115 rfl ?_
      refine T.lload dX1_runOn_116 rfl ?_
      refine T.clst (x := d) dX1_runOn_118 rfl (ok12 (by omega)) (fun _ => rfl) rfl (by omega) ?_
      exact T.vret dX1_runOn_119 ⟨rfl, by rw [show days.toNat = k from by omega]⟩
    · refine T.lload dX1_runOn_84 rfl ?_
      refine T.aload_n dX1_runOn_86 rfl ?_
      refine T.mget (v := rf E 11 j 0) dX1_runOn_87 fo_X1_32 (ok10 (by omega)) rfl rfl ?_
      refine T.iload_n dX1_runOn_90 rfl ?_
      refine T.aL (z := S 11 d) (x := d) dX1_runOn_91 (ok11 (by omega)) (fun _ => rfl) rfl (by omega) (wrC_c rfl) ?_
      have q2 : 0 ≤ S 11 d ∧ S 11 d ≤ 99990000 := hS 11 d rfl
      refine T.lload dX1_runOn_92 rfl ?_
      refine T.ladd dX1_runOn_94 ?_
      refine T.iload_n dX1_runOn_95 rfl ?_
      refine T.i2l dX1_runOn_96 (by unfold rg; omega) ?_
      refine T.lmul dX1_runOn_97 ?_
      refine T.ldc2 dX1_runOn_98 kl_X1_89 ?_
      refine T.ldiv dX1_runOn_101 (by unfold rl; omega) (by unfold rl; omega) (by omega) (by omega) ?_
      refine T.ladd dX1_runOn_102 ?_
      refine T.lstore (ls' := [some (rf E 10 j 0), some (.int (iI (d : Int))), some (.int (iI days)), some (.int (iI (m 6 (2 + j) d 4))), some (.long (lI ((runI (S 11 d) (S 12 d) (m 6 (2 + j) d 4) k) + ((((S 11 d) + (runI (S 11 d) (S 12 d) (m 6 (2 + j) d 4) k)) * (m 6 (2 + j) d 4)) / 10000)))), none, some (.int (iI (k : Int)))]) dX1_runOn_103 rfl ?_
      refine T.iinc (ls' := [some (rf E 10 j 0), some (.int (iI (d : Int))), some (.int (iI days)), some (.int (iI (m 6 (2 + j) d 4))), some (.long (lI ((runI (S 11 d) (S 12 d) (m 6 (2 + j) d 4) k) + ((((S 11 d) + (runI (S 11 d) (S 12 d) (m 6 (2 + j) d 4) k)) * (m 6 (2 + j) d 4)) / 10000)))), none, some (.int (iI ((k : Int) + 1)))]) dX1_runOn_105 rfl rfl ?_
      refine T.goto 78 dX1_runOn_108 ?_
      exact ih (days.toNat - (k + 1)) (by omega) (k + 1) rfl (by omega)
set_option maxHeartbeats 4000000 in
set_option maxRecDepth 100000 in
theorem c_runOn (E : Ev) (m : Mem) (j : Nat) (S : PS) (d : Nat) (days : Int) (hj : j < 6) (hI : Inv m) (hS : InvS kC S) (hd : d < 8) (hds : -1000 ≤ days ∧ days ≤ 1000) (t : Nat) (hB : S 11 d + S 12 d ≤ bnd t) (ht : t + days.toNat ≤ 299) : CT E 1 mX1_runOn [rf E 10 j 0, .int (iI (d : Int)), .int (iI days)] (hp E (wrC m j S)) (none) (hp E (wrC m j (runOnS (bk m (2 + j)) S d days))) := by
  refine CT.go okX1_runOn (Nat.le_of_ble_eq_true rfl) ?_
  show T E 1 mX1_runOn 0 [some (rf E 10 j 0), some (.int (iI (d : Int))), some (.int (iI days)), none, none, none, none] [] (hp E (wrC m j S)) _
  have q1 : 0 ≤ S 11 d ∧ S 11 d ≤ 99990000 := hS 11 d rfl
  have q2 : 0 ≤ S 12 d ∧ S 12 d ≤ 4000000000 := hS 12 d rfl
  have q3 : 0 ≤ m 6 (2 + j) d 4 ∧ m 6 (2 + j) d 4 ≤ 99 := hI 6 (2 + j) d 4
  have y1 := mul_bd q1.1 q1.2 q3.1 q3.2
  refine T.aload_n dX1_runOn_0 rfl ?_
  refine T.mget (v := rf E 1 (2 + j) 0) dX1_runOn_1 fo_X1_12 (ok10 (by omega)) rfl rfl ?_
  refine T.mget (v := rf E 2 (2 + j) 0) dX1_runOn_4 fo_X1_80 (ok1 (by omega)) rfl rfl ?_
  refine T.iload_n dX1_runOn_7 rfl ?_
  refine T.mald (C := RX2) (x := d) dX1_runOn_8 (ok2 (by omega)) (fun _ => rfl) rfl rfl (by omega) ?_
  refine T.mget (v := rf E 6 (2 + j) d) dX1_runOn_9 fo_X1_143 (ok5 (by omega) (by omega)) rfl rfl ?_
  refine T.iconst dX1_runOn_12 ?_
  refine T.aI (z := m 6 (2 + j) d 4) (x := 4) dX1_runOn_13 (ok6 (by omega) (by omega)) (fun _ => rfl) rfl (by decide) rfl ?_
  have q1 : 0 ≤ m 6 (2 + j) d 4 ∧ m 6 (2 + j) d 4 ≤ 99 := hI 6 (2 + j) d 4
  refine T.istore_n (ls' := [some (rf E 10 j 0), some (.int (iI (d : Int))), some (.int (iI days)), some (.int (iI (m 6 (2 + j) d 4))), none, none, none]) dX1_runOn_14 rfl ?_
  refine T.iload_n dX1_runOn_15 rfl ?_
  refine T.if_le 23 dX1_runOn_16 (by unfold rg; omega) (fun c2 => ?_) (fun c2 => ?_)
  · exact T.vret dX1_runOn_23 ⟨rfl, by rw [show runOnS (bk m (2 + j)) S d days = S from by unfold runOnS; rw [if_pos (by show days ≤ 0 ∨ m 6 (2 + j) d 4 = 0; omega)]]⟩
  · refine T.iload_n dX1_runOn_19 rfl ?_
    refine T.if_ne 24 dX1_runOn_20 (by unfold rg; omega) (fun c3 => ?_) (fun c3 => ?_)
    · refine T.aload_n dX1_runOn_24 rfl ?_
      refine T.mget (v := rf E 1 (2 + j) 0) dX1_runOn_25 fo_X1_12 (ok10 (by omega)) rfl rfl ?_
      refine T.mget (v := rf E 2 (2 + j) 0) dX1_runOn_28 fo_X1_80 (ok1 (by omega)) rfl rfl ?_
      refine T.iload_n dX1_runOn_31 rfl ?_
      refine T.mald (C := RX2) (x := d) dX1_runOn_32 (ok2 (by omega)) (fun _ => rfl) rfl rfl (by omega) ?_
      refine T.mget (v := rf E 6 (2 + j) d) dX1_runOn_33 fo_X1_143 (ok5 (by omega) (by omega)) rfl rfl ?_
      refine T.iconst dX1_runOn_36 ?_
      refine T.aI (z := m 6 (2 + j) d 0) (x := 0) dX1_runOn_37 (ok6 (by omega) (by omega)) (fun _ => rfl) rfl (by decide) rfl ?_
      have q4 : 0 ≤ m 6 (2 + j) d 0 ∧ m 6 (2 + j) d 0 ≤ 1 := hI 6 (2 + j) d 0
      refine T.if_ne 67 dX1_runOn_38 (by unfold rg; omega) (fun c5 => ?_) (fun c5 => ?_)
      · refine T.aload_n dX1_runOn_67 rfl ?_
        refine T.mget (v := rf E 12 j 0) dX1_runOn_68 fo_X1_36 (ok10 (by omega)) rfl rfl ?_
        refine T.iload_n dX1_runOn_71 rfl ?_
        refine T.aL (z := S 12 d) (x := d) dX1_runOn_72 (ok12 (by omega)) (fun _ => rfl) rfl (by omega) (wrC_c rfl) ?_
        have q6 : 0 ≤ S 12 d ∧ S 12 d ≤ 4000000000 := hS 12 d rfl
        refine T.lstore (ls' := [some (rf E 10 j 0), some (.int (iI (d : Int))), some (.int (iI days)), some (.int (iI (m 6 (2 + j) d 4))), some (.long (lI (S 12 d))), none, none]) dX1_runOn_73 rfl ?_
        refine T.iconst dX1_runOn_75 ?_
        refine T.istore (ls' := [some (rf E 10 j 0), some (.int (iI (d : Int))), some (.int (iI days)), some (.int (iI (m 6 (2 + j) d 4))), some (.long (lI (S 12 d))), none, some (.int (iI 0))]) dX1_runOn_76 rfl ?_
        rw [show runOnS (bk m (2 + j)) S d days = upT S 12 d (runI (S 11 d) (S 12 d) (m 6 (2 + j) d 4) days.toNat) from by unfold runOnS; rw [if_neg (by show ¬ (days ≤ 0 ∨ m 6 (2 + j) d 4 = 0); omega), if_neg (by show ¬ (m 6 (2 + j) d 0 = 0); omega)]; rfl]
        exact c_runOn_loop E m j S hj hI hS d hd days (by omega) t hB ht _ 0 rfl (Nat.zero_le _)
      · refine T.aload_n dX1_runOn_41 rfl ?_
        refine T.mget (v := rf E 12 j 0) dX1_runOn_42 fo_X1_36 (ok10 (by omega)) rfl rfl ?_
        refine T.iload_n dX1_runOn_45 rfl ?_
        refine T.dup2 dX1_runOn_46 ?_
        refine T.aL (z := S 12 d) (x := d) dX1_runOn_47 (ok12 (by omega)) (fun _ => rfl) rfl (by omega) (wrC_c rfl) ?_
        have q7 : 0 ≤ S 12 d ∧ S 12 d ≤ 4000000000 := hS 12 d rfl
        refine T.aload_n dX1_runOn_48 rfl ?_
        refine T.mget (v := rf E 11 j 0) dX1_runOn_49 fo_X1_32 (ok10 (by omega)) rfl rfl ?_
        refine T.iload_n dX1_runOn_52 rfl ?_
        refine T.aL (z := S 11 d) (x := d) dX1_runOn_53 (ok11 (by omega)) (fun _ => rfl) rfl (by omega) (wrC_c rfl) ?_
        have q8 : 0 ≤ S 11 d ∧ S 11 d ≤ 99990000 := hS 11 d rfl
        refine T.iload_n dX1_runOn_54 rfl ?_
        refine T.i2l dX1_runOn_55 (by unfold rg; omega) ?_
        refine T.lmul dX1_runOn_56 ?_
        refine T.ldc2 dX1_runOn_57 kl_X1_89 ?_
        refine T.ldiv dX1_runOn_60 (by unfold rl; omega) (by unfold rl; omega) (by omega) (by omega) ?_
        refine T.iload_n dX1_runOn_61 rfl ?_
        refine T.i2l dX1_runOn_62 (by unfold rg; omega) ?_
        refine T.lmul dX1_runOn_63 ?_
        refine T.ladd dX1_runOn_64 ?_
        refine T.clst (x := d) dX1_runOn_65 rfl (ok12 (by omega)) (fun _ => rfl) rfl (by omega) ?_
        exact T.vret dX1_runOn_66 ⟨rfl, by rw [show runOnS (bk m (2 + j)) S d days = (upT S 12 d ((S 12 d) + ((((S 11 d) * (m 6 (2 + j) d 4)) / 10000) * days))) from by unfold runOnS; rw [if_neg (by show ¬ (days ≤ 0 ∨ m 6 (2 + j) d 4 = 0); omega), if_pos (by show m 6 (2 + j) d 0 = 0; omega)]; rfl]⟩
    · exact T.vret dX1_runOn_23 ⟨rfl, by rw [show runOnS (bk m (2 + j)) S d days = S from by unfold runOnS; rw [if_pos (by show days ≤ 0 ∨ m 6 (2 + j) d 4 = 0; omega)]]⟩
theorem runOnS_k {β S : PS} {d : Nat} {days : Int} {k : Nat} (h : k ≠ 12) : runOnS β S d days k = S k := by
  unfold runOnS
  split
  · rfl
  · split <;> (funext x; rw [upT_k h])
theorem runOnS_x {β S : PS} {d x : Nat} {days : Int} (h : x ≠ d) : runOnS β S d days 12 x = S 12 x := by
  unfold runOnS
  split
  · rfl
  · split <;> rw [upT_x h]
theorem runOnS_bd {β S : PS} {d t : Nat} {days : Int} (h0 : 0 ≤ S 11 d) (h1 : 0 ≤ S 12 d) (hr : 0 ≤ β 3 d ∧ β 3 d ≤ 99) (hB : S 11 d + S 12 d ≤ bnd t) (ht : t + days.toNat ≤ 299) : 0 ≤ runOnS β S d days 12 d ∧ S 11 d + runOnS β S d days 12 d ≤ bnd (t + days.toNat) := by
  have hm := (bnd_mono t (t + days.toNat) (by omega)).1
  unfold runOnS
  split
  · exact ⟨h1, by omega⟩
  · rename_i hc
    split
    · rw [upT_self]
      have := runM_bd h0 h1 hB hr.1 hr.2 days.toNat
      rw [show ((days.toNat : Nat) : Int) = days from by omega] at this
      exact this
    · rw [upT_self]
      exact runI_bd h0 h1 hB hr.1 hr.2 days.toNat
theorem runOnS_inv {β S : PS} {d t : Nat} {days : Int} (h : InvS kC S) (hr : 0 ≤ β 3 d ∧ β 3 d ≤ 99) (hB : S 11 d + S 12 d ≤ bnd t) (ht : t + days.toNat ≤ 299) : InvS kC (runOnS β S d days) := by
  have q1 : 0 ≤ S 11 d ∧ S 11 d ≤ 99990000 := h 11 d rfl
  have q2 : 0 ≤ S 12 d ∧ S 12 d ≤ 4000000000 := h 12 d rfl
  have hb := runOnS_bd q1.1 q2.1 hr hB ht
  have h9 := (bnd_mono (t + days.toNat) 299 ht).1
  have h8 := bnd_299
  intro k x hk
  by_cases hk2 : k = 12
  · subst hk2
    by_cases hx : x = d
    · subst hx
      show 0 ≤ _ ∧ _ ≤ (4000000000 : Int)
      omega
    · rw [runOnS_x hx]
      exact h 12 x hk
  · rw [runOnS_k hk2]
    exact h k x hk
