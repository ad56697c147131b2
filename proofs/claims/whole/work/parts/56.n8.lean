set_option maxHeartbeats 4000000 in
set_option maxRecDepth 100000 in
theorem c_tf_l (E : Ev) (dd dp nx : Nat) (hdd : 6 ≤ dd) (hdp : dp ≤ 2) (hnx : nx < 3) (TT : Mem → Mem) (hT : ∀ m, TF m (2 + dp + 1) → CT E dd mX7_tryFrom [rf E 20 0 0, .int (iI ((dp : Int) + 1))] (hp E m) none (hp E (TT m))) (hTok : ∀ m, TF m (2 + dp + 1) → Inv (TT m) ∧ LO (TT m) ∧ TFr (2 + dp + 1) (2 + dp + 4) m (TT m)) : ∀ (k : Nat) (b : Int) (D : Mem), (D 1 (2 + (2 + dp)) 0 1 - b).toNat = k → TF D (2 + dp) → (-1 ≤ b ∧ b ≤ D 1 (2 + (2 + dp)) 0 1) → T E (dd + 1) mX7_tryFrom 122 [some (rf E 20 0 0), some (.int (iI (dp : Int))), some (rf E 10 (2 + dp) 0), some (.int (iI (nx : Int))), some (rf E 10 (2 + (dp + 1)) 0), some (.int (iI b))] [] (hp E D) (fun r' h' => r' = none ∧ h' = hp E (tfL TT (2 + dp) nx k b D)) := by
  intro k
  induction k using Nat.strongRecOn with
  | ind k ih =>
    intro b D hk hTF hb
    have qn : 0 ≤ D 1 (2 + (2 + dp)) 0 1 ∧ D 1 (2 + (2 + dp)) 0 1 ≤ 8 := hTF.1 1 _ 0 1
    refine T.iload dX7_tryFrom_122 rfl ?_
    refine T.aload_n dX7_tryFrom_124 rfl ?_
    refine T.mget (v := rf E 1 (2 + (2 + dp)) 0) dX7_tryFrom_125 fo_X7_72 (ok10 (by omega)) rfl rfl ?_
    refine T.gI (z := D 1 (2 + (2 + dp)) 0 1) dX7_tryFrom_128 fo_X7_85 (ok1 (by omega)) rfl rfl rfl ?_
    have q1 : 0 ≤ D 1 (2 + (2 + dp)) 0 1 ∧ D 1 (2 + (2 + dp)) 0 1 ≤ 8 := hTF.1 1 (2 + (2 + dp)) 0 1
    refine T.icmp_ge 197 dX7_tryFrom_131 (by unfold rg; omega) (by unfold rg; omega) (fun c2 => ?_) (fun c2 => ?_)
    · obtain rfl : k = 0 := by omega
      exact T.vret dX7_tryFrom_197 ⟨rfl, rfl⟩
    · refine T.iload dX7_tryFrom_134 rfl ?_
      refine T.iconst dX7_tryFrom_136 ?_
      refine T.icmp_eq 149 dX7_tryFrom_137 (by unfold rg; omega) (by unfold rg; omega) (fun c3 => ?_) (fun c3 => ?_)
      · have hts := tfS_ok (nx := nx) (b := b) hTF.1 (by omega) hTF.2.2.2 hTF.2.2.1 hTF.2.1 (show 2 ≤ 2 + dp ∧ 2 + dp ≤ 4 by omega) (by omega)
        have hkk := tfK_ok (T := TT) (nx := nx) (b := b) (show 2 ≤ 2 + dp ∧ 2 + dp ≤ 4 by omega) (by omega) hTok (by omega) hTF
        have hcb : CB (bk (tfD D (2 + dp) nx b) (2 + (2 + dp + 1))) (tfW D (2 + dp) nx b) := by
          refine swS_cb (β := bk D (2 + (2 + dp))) ?_ (n8_of hTF.1 _) hTF.2.2.2
          show (D 1 (2 + (2 + dp + 1)) 0 1).toNat = (D 1 (2 + (2 + dp)) 0 1).toNat
          rw [hTF.2.2.1 (2 + (2 + dp + 1)) (by omega) (by omega), hTF.2.2.1 (2 + (2 + dp)) (by omega) (by omega)]
        refine T.aload_n dX7_tryFrom_149 rfl ?_
        refine T.mget (v := rf E 22 0 0) dX7_tryFrom_150 fo_X7_23 ok20 rfl rfl ?_
        refine T.iload_n dX7_tryFrom_153 rfl ?_
        refine T.iload dX7_tryFrom_154 rfl ?_
        refine T.mist (x := nx) dX7_tryFrom_156 ok22 (fun _ => rfl) rfl (by omega) ?_
        refine T.aload dX7_tryFrom_157 rfl ?_
        refine T.aload_n dX7_tryFrom_159 rfl ?_
        refine T.cV0 (As := [rf E 10 (2 + dp) 0]) (st := []) dX7_tryFrom_160 lk_X7_92 (by have h0 := c_standWith E (up D 22 0 0 nx b) (2 + (dp + 1)) (cs (up D 22 0 0 nx b) (2 + (dp + 1))) (2 + dp) (by omega) (by omega) (by omega); rw [wrC_self] at h0; exact h0) (ok10 (by omega)) rfl rfl (by omega) rfl rfl (Nat.le_of_ble_eq_true rfl) ?_
        refine T.aload dX7_tryFrom_163 rfl ?_
        refine T.mget (v := rf E 1 (2 + (2 + (dp + 1))) 0) dX7_tryFrom_165 fo_X7_72 (ok10 (by omega)) rfl rfl ?_
        refine T.mget (v := rf E 3 (2 + (2 + (dp + 1))) 0) dX7_tryFrom_168 fo_X7_76 (ok1 (by omega)) rfl rfl ?_
        refine T.iload_n dX7_tryFrom_171 rfl ?_
        refine T.mald (C := RX4) (x := nx) dX7_tryFrom_172 (ok3 (by omega)) (fun _ => rfl) rfl rfl (by omega) ?_
        refine T.iload dX7_tryFrom_173 rfl ?_
        refine T.mputI dX7_tryFrom_175 fp_X7_96 (ok7 (by omega) (by omega)) rfl rfl (Nat.le_of_ble_eq_true rfl) ?_
        rw [up_wrC_o rfl]
        refine T.aload dX7_tryFrom_178 rfl ?_
        refine T.iload_n dX7_tryFrom_180 rfl ?_
        refine T.cV0 (As := [.int (iI (nx : Int))]) (st := []) dX7_tryFrom_181 lk_X7_58 (c_take E (tfD D (2 + dp) nx b) (2 + (dp + 1)) (tfW D (2 + dp) nx b) nx (by omega) (tfD_inv hTF.1 (by omega)) (tfW_inv hTF.1 (by omega)) (by omega) hcb) (ok10 (by omega)) rfl rfl (by omega) rfl rfl (Nat.le_of_ble_eq_true rfl) ?_
        refine T.aload_n dX7_tryFrom_184 rfl ?_
        refine T.iload_n dX7_tryFrom_185 rfl ?_
        refine T.iconst dX7_tryFrom_186 ?_
        refine T.iadd dX7_tryFrom_187 ?_
        refine T.cV0 (As := [.int (iI ((dp : Int) + 1))]) (st := []) dX7_tryFrom_188 lk_X7_50 (hT (tfS D (2 + dp) nx b) ⟨hts.1, hts.2.1, hts.2.2.2.1, hts.2.2.2.2⟩) ok20 rfl rfl (by omega) rfl rfl (Nat.le_of_ble_eq_true rfl) ?_
        refine T.iinc (ls' := [some (rf E 20 0 0), some (.int (iI (dp : Int))), some (rf E 10 (2 + dp) 0), some (.int (iI (nx : Int))), some (rf E 10 (2 + (dp + 1)) 0), some (.int (iI (b + 1)))]) dX7_tryFrom_191 rfl rfl ?_
        refine T.goto 122 dX7_tryFrom_194 ?_
        obtain ⟨kk, hk2⟩ : ∃ kk, k = kk + 1 := ⟨k - 1, by omega⟩
        rw [show tfL TT (2 + dp) nx k b D = tfL TT (2 + dp) nx kk (b + 1) (TT (tfS D (2 + dp) nx b)) from by rw [hk2]; show tfL TT (2 + dp) nx kk (b + 1) (if tfH D (2 + dp) b then TT (tfS D (2 + dp) nx b) else D) = _; rw [if_pos (by first | (left; omega) | (right; assumption))]]
        exact ih kk (by omega) (b + 1) _ (by rw [show TT (tfS D (2 + dp) nx b) 1 = D 1 from hkk.2.2.2.1 1 (by decide) (by decide)]; omega) hkk.1 (by rw [show TT (tfS D (2 + dp) nx b) 1 = D 1 from hkk.2.2.2.1 1 (by decide) (by decide)]; omega)
      · refine T.aload_n dX7_tryFrom_140 rfl ?_
        refine T.iload dX7_tryFrom_141 rfl ?_
        refine T.cV1 (As := [.int (iI b)]) (st := []) dX7_tryFrom_143 lk_X7_88 (by have h0 := c_heeds E D (2 + dp) (cs D (2 + dp)) (d := b) (by omega) hTF.1 (hTF.1.S kC _) (by unfold rg; omega); rw [wrC_self] at h0; exact h0) (ok10 (by omega)) rfl rfl (by omega) rfl rfl (Nat.le_of_ble_eq_true rfl) ?_
        refine T.ifB_eq 191 dX7_tryFrom_146 (fun c4 => ?_) (fun c4 => ?_)
        · refine T.iinc (ls' := [some (rf E 20 0 0), some (.int (iI (dp : Int))), some (rf E 10 (2 + dp) 0), some (.int (iI (nx : Int))), some (rf E 10 (2 + (dp + 1)) 0), some (.int (iI (b + 1)))]) dX7_tryFrom_191 rfl rfl ?_
          refine T.goto 122 dX7_tryFrom_194 ?_
          obtain ⟨kk, hk2⟩ : ∃ kk, k = kk + 1 := ⟨k - 1, by omega⟩
          rw [show tfL TT (2 + dp) nx k b D = tfL TT (2 + dp) nx kk (b + 1) D from by rw [hk2]; show tfL TT (2 + dp) nx kk (b + 1) (if tfH D (2 + dp) b then TT (tfS D (2 + dp) nx b) else D) = _; rw [if_neg (fun z => by rcases z with z | z <;> first | omega | contradiction)]]
          exact ih kk (by omega) (b + 1) _ (by omega) hTF (by omega)
        · have hts := tfS_ok (nx := nx) (b := b) hTF.1 (by omega) hTF.2.2.2 hTF.2.2.1 hTF.2.1 (show 2 ≤ 2 + dp ∧ 2 + dp ≤ 4 by omega) (by omega)
          have hkk := tfK_ok (T := TT) (nx := nx) (b := b) (show 2 ≤ 2 + dp ∧ 2 + dp ≤ 4 by omega) (by omega) hTok (by omega) hTF
          have hcb : CB (bk (tfD D (2 + dp) nx b) (2 + (2 + dp + 1))) (tfW D (2 + dp) nx b) := by
            refine swS_cb (β := bk D (2 + (2 + dp))) ?_ (n8_of hTF.1 _) hTF.2.2.2
            show (D 1 (2 + (2 + dp + 1)) 0 1).toNat = (D 1 (2 + (2 + dp)) 0 1).toNat
            rw [hTF.2.2.1 (2 + (2 + dp + 1)) (by omega) (by omega), hTF.2.2.1 (2 + (2 + dp)) (by omega) (by omega)]
          refine T.aload_n dX7_tryFrom_149 rfl ?_
          refine T.mget (v := rf E 22 0 0) dX7_tryFrom_150 fo_X7_23 ok20 rfl rfl ?_
          refine T.iload_n dX7_tryFrom_153 rfl ?_
          refine T.iload dX7_tryFrom_154 rfl ?_
          refine T.mist (x := nx) dX7_tryFrom_156 ok22 (fun _ => rfl) rfl (by omega) ?_
          refine T.aload dX7_tryFrom_157 rfl ?_
          refine T.aload_n dX7_tryFrom_159 rfl ?_
          refine T.cV0 (As := [rf E 10 (2 + dp) 0]) (st := []) dX7_tryFrom_160 lk_X7_92 (by have h0 := c_standWith E (up D 22 0 0 nx b) (2 + (dp + 1)) (cs (up D 22 0 0 nx b) (2 + (dp + 1))) (2 + dp) (by omega) (by omega) (by omega); rw [wrC_self] at h0; exact h0) (ok10 (by omega)) rfl rfl (by omega) rfl rfl (Nat.le_of_ble_eq_true rfl) ?_
          refine T.aload dX7_tryFrom_163 rfl ?_
          refine T.mget (v := rf E 1 (2 + (2 + (dp + 1))) 0) dX7_tryFrom_165 fo_X7_72 (ok10 (by omega)) rfl rfl ?_
          refine T.mget (v := rf E 3 (2 + (2 + (dp + 1))) 0) dX7_tryFrom_168 fo_X7_76 (ok1 (by omega)) rfl rfl ?_
          refine T.iload_n dX7_tryFrom_171 rfl ?_
          refine T.mald (C := RX4) (x := nx) dX7_tryFrom_172 (ok3 (by omega)) (fun _ => rfl) rfl rfl (by omega) ?_
          refine T.iload dX7_tryFrom_173 rfl ?_
          refine T.mputI dX7_tryFrom_175 fp_X7_96 (ok7 (by omega) (by omega)) rfl rfl (Nat.le_of_ble_eq_true rfl) ?_
          rw [up_wrC_o rfl]
          refine T.aload dX7_tryFrom_178 rfl ?_
          refine T.iload_n dX7_tryFrom_180 rfl ?_
          refine T.cV0 (As := [.int (iI (nx : Int))]) (st := []) dX7_tryFrom_181 lk_X7_58 (c_take E (tfD D (2 + dp) nx b) (2 + (dp + 1)) (tfW D (2 + dp) nx b) nx (by omega) (tfD_inv hTF.1 (by omega)) (tfW_inv hTF.1 (by omega)) (by omega) hcb) (ok10 (by omega)) rfl rfl (by omega) rfl rfl (Nat.le_of_ble_eq_true rfl) ?_
          refine T.aload_n dX7_tryFrom_184 rfl ?_
          refine T.iload_n dX7_tryFrom_185 rfl ?_
          refine T.iconst dX7_tryFrom_186 ?_
          refine T.iadd dX7_tryFrom_187 ?_
          refine T.cV0 (As := [.int (iI ((dp : Int) + 1))]) (st := []) dX7_tryFrom_188 lk_X7_50 (hT (tfS D (2 + dp) nx b) ⟨hts.1, hts.2.1, hts.2.2.2.1, hts.2.2.2.2⟩) ok20 rfl rfl (by omega) rfl rfl (Nat.le_of_ble_eq_true rfl) ?_
          refine T.iinc (ls' := [some (rf E 20 0 0), some (.int (iI (dp : Int))), some (rf E 10 (2 + dp) 0), some (.int (iI (nx : Int))), some (rf E 10 (2 + (dp + 1)) 0), some (.int (iI (b + 1)))]) dX7_tryFrom_191 rfl rfl ?_
          refine T.goto 122 dX7_tryFrom_194 ?_
          obtain ⟨kk, hk2⟩ : ∃ kk, k = kk + 1 := ⟨k - 1, by omega⟩
          rw [show tfL TT (2 + dp) nx k b D = tfL TT (2 + dp) nx kk (b + 1) (TT (tfS D (2 + dp) nx b)) from by rw [hk2]; show tfL TT (2 + dp) nx kk (b + 1) (if tfH D (2 + dp) b then TT (tfS D (2 + dp) nx b) else D) = _; rw [if_pos (by first | (left; omega) | (right; assumption))]]
          exact ih kk (by omega) (b + 1) _ (by rw [show TT (tfS D (2 + dp) nx b) 1 = D 1 from hkk.2.2.2.1 1 (by decide) (by decide)]; omega) hkk.1 (by rw [show TT (tfS D (2 + dp) nx b) 1 = D 1 from hkk.2.2.2.1 1 (by decide) (by decide)]; omega)
set_option maxHeartbeats 4000000 in
set_option maxRecDepth 100000 in
theorem c_tf_54 (E : Ev) (dd dp : Nat) (hdd : 6 ≤ dd) (hdp : dp ≤ 2) (TT : Mem → Mem) (hT : ∀ m, TF m (2 + dp + 1) → CT E dd mX7_tryFrom [rf E 20 0 0, .int (iI ((dp : Int) + 1))] (hp E m) none (hp E (TT m))) (hTok : ∀ m, TF m (2 + dp + 1) → Inv (TT m) ∧ LO (TT m) ∧ TFr (2 + dp + 1) (2 + dp + 4) m (TT m)) (m : Mem) (S : PS) (hI : Inv m) (hS : InvS kC S) (hB : CB (bk m (2 + (2 + dp))) S) (hlo : LO m) (hcn : CN m) : T E (dd + 1) mX7_tryFrom 54 [some (rf E 20 0 0), some (.int (iI (dp : Int))), some (rf E 10 (2 + dp) 0), some (.int (iI (nextS (bk m (2 + (2 + dp))) S (m 20 0 0 6)))), none, none] [] (hp E (wrC m (2 + dp) S)) (fun r' h' => r' = none ∧ h' = hp E (if nextS (bk m (2 + (2 + dp))) S (m 20 0 0 6) < 0 ∨ (m 20 0 0 5) ≤ nextS (bk m (2 + (2 + dp))) S (m 20 0 0 6) then weM (wrC m (2 + dp) (runToS (bk m (2 + (2 + dp))) S (m 20 0 0 6))) (owedL (bk m (2 + (2 + dp))) (runToS (bk m (2 + (2 + dp))) S (m 20 0 0 6)) (m 1 (2 + (2 + dp)) 0 1).toNat) else tfL TT (2 + dp) (nextS (bk m (2 + (2 + dp))) S (m 20 0 0 6)).toNat (m 1 (2 + (2 + dp)) 0 1 + 1).toNat (-1) (wrC m (2 + dp) (runToS (bk m (2 + (2 + dp))) S (m 7 (2 + (2 + dp)) (nextS (bk m (2 + (2 + dp))) S (m 20 0 0 6)).toNat 0))))) := by
  have qy : 0 ≤ m 20 0 0 6 ∧ m 20 0 0 6 ≤ 299 := hI 20 0 0 6
  have qc : 0 ≤ m 20 0 0 5 ∧ m 20 0 0 5 ≤ 3 := hI 20 0 0 5
  have qn : 0 ≤ m 1 (2 + (2 + dp)) 0 1 ∧ m 1 (2 + (2 + dp)) 0 1 ≤ 8 := hI 1 _ 0 1
  have hr := nextS_rg (β := (bk m (2 + (2 + dp)))) (S := S) (t := (m 20 0 0 6)) (n13_of hI (2 + (2 + dp)))
  have qd : 0 ≤ m 7 (2 + (2 + dp)) (nextS (bk m (2 + (2 + dp))) S (m 20 0 0 6)).toNat 0 ∧ m 7 (2 + (2 + dp)) (nextS (bk m (2 + (2 + dp))) S (m 20 0 0 6)).toNat 0 ≤ 299 := hI 7 _ _ 0
  refine T.iload_n dX7_tryFrom_54 rfl ?_
  refine T.if_lt 76 dX7_tryFrom_55 (by unfold rg; omega) (fun c1 => ?_) (fun c1 => ?_)
  · refine T.fgt (ls' := [some (rf E 20 0 0), none, some (rf E 10 (2 + dp) 0), none, none, none]) (by simp [lsw]) ?_
    rw [if_pos (by omega)]
    exact c_tf_76 E (dd + 1) (by omega) m (2 + dp) S (by omega) hI hS hB hlo
  · refine T.iload_n dX7_tryFrom_58 rfl ?_
    refine T.aload_n dX7_tryFrom_59 rfl ?_
    refine T.gI (z := m 20 0 0 5) dX7_tryFrom_60 fo_X7_32 ok20 rfl rfl rfl ?_
    have q2 : 0 ≤ m 20 0 0 5 ∧ m 20 0 0 5 ≤ 3 := hI 20 0 0 5
    refine T.icmp_ge 76 dX7_tryFrom_63 (by unfold rg; omega) (by unfold rg; omega) (fun c3 => ?_) (fun c3 => ?_)
    · refine T.fgt (ls' := [some (rf E 20 0 0), none, some (rf E 10 (2 + dp) 0), none, none, none]) (by simp [lsw]) ?_
      rw [if_pos (by omega)]
      exact c_tf_76 E (dd + 1) (by omega) m (2 + dp) S (by omega) hI hS hB hlo
    · refine T.iload_n dX7_tryFrom_66 rfl ?_
      refine T.iconst dX7_tryFrom_67 ?_
      refine T.icmp_ge 76 dX7_tryFrom_68 (by unfold rg; omega) (by unfold rg; omega) (fun c4 => ?_) (fun c4 => ?_)
      · refine T.fgt (ls' := [some (rf E 20 0 0), none, some (rf E 10 (2 + dp) 0), none, none, none]) (by simp [lsw]) ?_
        rw [if_pos (by omega)]
        exact c_tf_76 E (dd + 1) (by omega) m (2 + dp) S (by omega) hI hS hB hlo
      · refine T.iload_n dX7_tryFrom_71 rfl ?_
        refine T.iconst dX7_tryFrom_72 ?_
        refine T.icmp_lt 93 dX7_tryFrom_73 (by unfold rg; omega) (by unfold rg; omega) (fun c5 => ?_) (fun c5 => ?_)
        · refine T.aload_n dX7_tryFrom_93 rfl ?_
          refine T.aload_n dX7_tryFrom_94 rfl ?_
          refine T.mget (v := rf E 1 (2 + (2 + dp)) 0) dX7_tryFrom_95 fo_X7_72 (ok10 (by omega)) rfl rfl ?_
          refine T.mget (v := rf E 3 (2 + (2 + dp)) 0) dX7_tryFrom_98 fo_X7_76 (ok1 (by omega)) rfl rfl ?_
          refine T.iload_n dX7_tryFrom_101 rfl ?_
          refine T.mald (C := RX4) (x := (nextS (bk m (2 + (2 + dp))) S (m 20 0 0 6)).toNat) dX7_tryFrom_102 (ok3 (by omega)) (fun _ => rfl) rfl (by omega) (by omega) ?_
          refine T.gI (z := m 7 (2 + (2 + dp)) ((nextS (bk m (2 + (2 + dp))) S (m 20 0 0 6)).toNat) 0) dX7_tryFrom_103 fo_X7_82 (ok7 (by omega) (by omega)) rfl rfl rfl ?_
          have q6 : 0 ≤ m 7 (2 + (2 + dp)) ((nextS (bk m (2 + (2 + dp))) S (m 20 0 0 6)).toNat) 0 ∧ m 7 (2 + (2 + dp)) ((nextS (bk m (2 + (2 + dp))) S (m 20 0 0 6)).toNat) 0 ≤ 299 := hI 7 (2 + (2 + dp)) ((nextS (bk m (2 + (2 + dp))) S (m 20 0 0 6)).toNat) 0
          refine T.cV0 (As := [.int (iI (m 7 (2 + (2 + dp)) ((nextS (bk m (2 + (2 + dp))) S (m 20 0 0 6)).toNat) 0))]) (st := []) dX7_tryFrom_106 lk_X7_61 (c_runTo E m (2 + dp) S (m 7 (2 + (2 + dp)) (nextS (bk m (2 + (2 + dp))) S (m 20 0 0 6)).toNat 0) (by omega) hI hS (rt_of hI _) hB (by omega)) (ok10 (by omega)) rfl rfl (by omega) rfl rfl (Nat.le_of_ble_eq_true rfl) ?_
          refine T.aload_n dX7_tryFrom_109 rfl ?_
          refine T.mget (v := rf E 23 0 0) dX7_tryFrom_110 fo_X7_28 ok20 rfl rfl ?_
          refine T.iload_n dX7_tryFrom_113 rfl ?_
          refine T.iconst dX7_tryFrom_114 ?_
          refine T.iadd dX7_tryFrom_115 ?_
          refine T.mald (C := RX1) (x := (dp + 1)) dX7_tryFrom_116 ok23 (fun _ => rfl) rfl (by omega) (by omega) ?_
          refine T.astore (ls' := [some (rf E 20 0 0), some (.int (iI (dp : Int))), some (rf E 10 (2 + dp) 0), some (.int (iI (nextS (bk m (2 + (2 + dp))) S (m 20 0 0 6)))), some (rf E 10 (2 + (dp + 1)) 0), none]) dX7_tryFrom_117 rfl ?_
          refine T.iconst dX7_tryFrom_119 ?_
          refine T.istore (ls' := [some (rf E 20 0 0), some (.int (iI (dp : Int))), some (rf E 10 (2 + dp) 0), some (.int (iI (nextS (bk m (2 + (2 + dp))) S (m 20 0 0 6)))), some (rf E 10 (2 + (dp + 1)) 0), some (.int (iI (-1)))]) dX7_tryFrom_120 rfl ?_
          have hr1 := runToS_inv hS (rt_of hI (2 + (2 + dp))) hB (show m 7 (2 + (2 + dp)) (nextS (bk m (2 + (2 + dp))) S (m 20 0 0 6)).toNat 0 ≤ 299 by omega)
          rw [if_neg (by omega)]
          have hTF : TF (wrC m (2 + dp) (runToS (bk m (2 + (2 + dp))) S (m 7 (2 + (2 + dp)) (nextS (bk m (2 + (2 + dp))) S (m 20 0 0 6)).toNat 0))) (2 + dp) := ⟨hI.wrC hr1.1, hlo, hcn, fun d hd => by
            have h3 := hr1.2 d hd
            show wrC _ _ _ 11 (2 + dp) 0 d + wrC _ _ _ 12 (2 + dp) 0 d ≤ bnd (wrC _ _ _ 10 (2 + dp) 0 2).toNat
            rw [wrC_c rfl, wrC_c rfl, wrC_c rfl]
            exact h3⟩
          have h0 := c_tf_l E dd dp (nextS (bk m (2 + (2 + dp))) S (m 20 0 0 6)).toNat hdd hdp (by omega) TT hT hTok (m 1 (2 + (2 + dp)) 0 1 + 1).toNat (-1) (wrC m (2 + dp) (runToS (bk m (2 + (2 + dp))) S (m 7 (2 + (2 + dp)) (nextS (bk m (2 + (2 + dp))) S (m 20 0 0 6)).toNat 0))) (by show (m 1 (2 + (2 + dp)) 0 1 - (-1)).toNat = _; omega) hTF (by show -1 ≤ (-1 : Int) ∧ (-1 : Int) ≤ m 1 (2 + (2 + dp)) 0 1; omega)
          rw [show (((nextS (bk m (2 + (2 + dp))) S (m 20 0 0 6)).toNat : Nat) : Int) = nextS (bk m (2 + (2 + dp))) S (m 20 0 0 6) from by omega] at h0
          exact h0
        · refine T.fgt (ls' := [some (rf E 20 0 0), none, some (rf E 10 (2 + dp) 0), none, none, none]) (by simp [lsw]) ?_
          rw [if_pos (by omega)]
          exact c_tf_76 E (dd + 1) (by omega) m (2 + dp) S (by omega) hI hS hB hlo
set_option maxHeartbeats 4000000 in
set_option maxRecDepth 100000 in
theorem c_try_step (E : Ev) (dd dp : Nat) (hdd : 6 ≤ dd) (hdp : dp ≤ 2) (TT : Mem → Mem) (hT : ∀ m, TF m (2 + dp + 1) → CT E dd mX7_tryFrom [rf E 20 0 0, .int (iI ((dp : Int) + 1))] (hp E m) none (hp E (TT m))) (hTok : ∀ m, TF m (2 + dp + 1) → Inv (TT m) ∧ LO (TT m) ∧ TFr (2 + dp + 1) (2 + dp + 4) m (TT m)) (m : Mem) (hTF : TF m (2 + dp)) : CT E (dd + 1) mX7_tryFrom [rf E 20 0 0, .int (iI (dp : Int))] (hp E (wrC m (2 + dp) (cs m (2 + dp)))) (none) (hp E (if tfN m (2 + dp) < 0 ∨ m 20 0 0 5 ≤ tfN m (2 + dp) then tfE m (2 + dp) else tfL TT (2 + dp) (tfN m (2 + dp)).toNat (m 1 (2 + (2 + dp)) 0 1 + 1).toNat (-1) (tfB m (2 + dp)))) := by
  refine CT.go okX7_tryFrom (Nat.le_of_ble_eq_true rfl) ?_
  show T E (dd + 1) mX7_tryFrom 0 [some (rf E 20 0 0), some (.int (iI (dp : Int))), none, none, none, none] [] (hp E (wrC m (2 + dp) (cs m (2 + dp)))) _
  have qy : 0 ≤ m 20 0 0 6 ∧ m 20 0 0 6 ≤ 299 := hTF.1 20 0 0 6
  refine T.aload_n dX7_tryFrom_0 rfl ?_
  refine T.mget (v := rf E 23 0 0) dX7_tryFrom_1 fo_X7_28 ok20 rfl rfl ?_
  refine T.iload_n dX7_tryFrom_4 rfl ?_
  refine T.mald (C := RX1) (x := dp) dX7_tryFrom_5 ok23 (fun _ => rfl) rfl rfl (by omega) ?_
  refine T.astore_n (ls' := [some (rf E 20 0 0), some (.int (iI (dp : Int))), some (rf E 10 (2 + dp) 0), none, none, none]) dX7_tryFrom_6 rfl ?_
  refine T.aload_n dX7_tryFrom_7 rfl ?_
  refine T.aload_n dX7_tryFrom_8 rfl ?_
  refine T.gI (z := m 20 0 0 6) dX7_tryFrom_9 fo_X7_36 ok20 rfl rfl rfl ?_
  have q1 : 0 ≤ m 20 0 0 6 ∧ m 20 0 0 6 ≤ 299 := hTF.1 20 0 0 6
  refine T.cV1 (As := [.int (iI (m 20 0 0 6))]) (st := []) dX7_tryFrom_12 lk_X7_54 (c_next E m (2 + dp) (cs m (2 + dp)) (m 20 0 0 6) (by omega) hTF.1 (hTF.1.S kC _) (by omega)) (ok10 (by omega)) rfl rfl (by omega) rfl rfl (Nat.le_of_ble_eq_true rfl) ?_
  refine T.istore_n (ls' := [some (rf E 20 0 0), some (.int (iI (dp : Int))), some (rf E 10 (2 + dp) 0), some (.int (iI (nextS (bk m (2 + (2 + dp))) (cs m (2 + dp)) (m 20 0 0 6)))), none, none]) dX7_tryFrom_15 rfl ?_
  refine T.iconst dX7_tryFrom_16 ?_
  refine T.istore (ls' := [some (rf E 20 0 0), some (.int (iI (dp : Int))), some (rf E 10 (2 + dp) 0), some (.int (iI (nextS (bk m (2 + (2 + dp))) (cs m (2 + dp)) (m 20 0 0 6)))), some (.int (iI 0)), none]) dX7_tryFrom_17 rfl ?_
  refine c_tf_a E (dd + 1) (by omega) m (2 + dp) (dp : Int) (by omega) hTF.1 _ _ 0 (cs m (2 + dp)) rfl (by omega) (hTF.1.S kC _) hTF.2.2.2 ?_
  have qc : 0 ≤ m 20 0 0 5 ∧ m 20 0 0 5 ≤ 3 := hTF.1 20 0 0 5
  have h1 := atL_inv (b := 2 + (2 + dp)) (q := 16 + (2 + dp)) (y := m 20 0 0 6) hTF.1 qc.1 12 (cs m (2 + dp)) (hTF.1.S kC _) hTF.2.2.2
  exact c_tf_54 E dd dp hdd hdp TT hT hTok m _ hTF.1 h1.1 h1.2 hTF.2.1 hTF.2.2.1
set_option maxHeartbeats 4000000 in
set_option maxRecDepth 100000 in
theorem c_tf_54b (E : Ev) (m : Mem) (S : PS) (hI : Inv m) (hS : InvS kC S) (hB : CB (bk m (2 + 5)) S) (hlo : LO m) : T E 7 mX7_tryFrom 54 [some (rf E 20 0 0), some (.int (iI 3)), some (rf E 10 5 0), some (.int (iI (nextS (bk m (2 + 5)) S (m 20 0 0 6)))), none, none] [] (hp E (wrC m 5 S)) (fun r' h' => r' = none ∧ h' = hp E (weM (wrC m 5 (runToS (bk m (2 + 5)) S (m 20 0 0 6))) (owedL (bk m (2 + 5)) (runToS (bk m (2 + 5)) S (m 20 0 0 6)) (m 1 (2 + 5) 0 1).toNat))) := by
  have qc : 0 ≤ m 20 0 0 5 ∧ m 20 0 0 5 ≤ 3 := hI 20 0 0 5
  have hr := nextS_rg (β := (bk m (2 + 5))) (S := S) (t := (m 20 0 0 6)) (n13_of hI (2 + 5))
  refine T.iload_n dX7_tryFrom_54 rfl ?_
  refine T.if_lt 76 dX7_tryFrom_55 (by unfold rg; omega) (fun c1 => ?_) (fun c1 => ?_)
  · refine T.fgt (ls' := [some (rf E 20 0 0), none, some (rf E 10 5 0), none, none, none]) (by simp [lsw]) ?_
    exact c_tf_76 E 7 (by omega) m 5 S (by omega) hI hS hB hlo
  · refine T.iload_n dX7_tryFrom_58 rfl ?_
    refine T.aload_n dX7_tryFrom_59 rfl ?_
    refine T.gI (z := m 20 0 0 5) dX7_tryFrom_60 fo_X7_32 ok20 rfl rfl rfl ?_
    have q2 : 0 ≤ m 20 0 0 5 ∧ m 20 0 0 5 ≤ 3 := hI 20 0 0 5
    refine T.icmp_ge 76 dX7_tryFrom_63 (by unfold rg; omega) (by unfold rg; omega) (fun c3 => ?_) (fun c3 => ?_)
    · refine T.fgt (ls' := [some (rf E 20 0 0), none, some (rf E 10 5 0), none, none, none]) (by simp [lsw]) ?_
      exact c_tf_76 E 7 (by omega) m 5 S (by omega) hI hS hB hlo
    · refine T.iload_n dX7_tryFrom_66 rfl ?_
      refine T.iconst dX7_tryFrom_67 ?_
      refine T.icmp_ge 76 dX7_tryFrom_68 (by unfold rg; omega) (by unfold rg; omega) (fun c4 => ?_) (fun c4 => ?_)
      · refine T.fgt (ls' := [some (rf E 20 0 0), none, some (rf E 10 5 0), none, none, none]) (by simp [lsw]) ?_
        exact c_tf_76 E 7 (by omega) m 5 S (by omega) hI hS hB hlo
      · refine T.iload_n dX7_tryFrom_71 rfl ?_
        refine T.iconst dX7_tryFrom_72 ?_
        refine T.icmp_lt 93 dX7_tryFrom_73 (by unfold rg; omega) (by unfold rg; omega) (fun c5 => ?_) (fun c5 => ?_)
        · exact absurd c5 (by omega)
        · refine T.fgt (ls' := [some (rf E 20 0 0), none, some (rf E 10 5 0), none, none, none]) (by simp [lsw]) ?_
          exact c_tf_76 E 7 (by omega) m 5 S (by omega) hI hS hB hlo
set_option maxHeartbeats 4000000 in
set_option maxRecDepth 100000 in
theorem c_try_base (E : Ev) (m : Mem) (hTF : TF m 5) : CT E 7 mX7_tryFrom [rf E 20 0 0, .int (iI 3)] (hp E (wrC m 5 (cs m 5))) (none) (hp E (tfE m 5)) := by
  refine CT.go okX7_tryFrom (Nat.le_of_ble_eq_true rfl) ?_
  show T E 7 mX7_tryFrom 0 [some (rf E 20 0 0), some (.int (iI 3)), none, none, none, none] [] (hp E (wrC m 5 (cs m 5))) _
  have qy : 0 ≤ m 20 0 0 6 ∧ m 20 0 0 6 ≤ 299 := hTF.1 20 0 0 6
  refine T.aload_n dX7_tryFrom_0 rfl ?_
  refine T.mget (v := rf E 23 0 0) dX7_tryFrom_1 fo_X7_28 ok20 rfl rfl ?_
  refine T.iload_n dX7_tryFrom_4 rfl ?_
  refine T.mald (C := RX1) (x := 3) dX7_tryFrom_5 ok23 (fun _ => rfl) rfl rfl (by decide) ?_
  refine T.astore_n (ls' := [some (rf E 20 0 0), some (.int (iI 3)), some (rf E 10 (2 + 3) 0), none, none, none]) dX7_tryFrom_6 rfl ?_
  refine T.aload_n dX7_tryFrom_7 rfl ?_
  refine T.aload_n dX7_tryFrom_8 rfl ?_
  refine T.gI (z := m 20 0 0 6) dX7_tryFrom_9 fo_X7_36 ok20 rfl rfl rfl ?_
  have q1 : 0 ≤ m 20 0 0 6 ∧ m 20 0 0 6 ≤ 299 := hTF.1 20 0 0 6
  refine T.cV1 (As := [.int (iI (m 20 0 0 6))]) (st := []) dX7_tryFrom_12 lk_X7_54 (c_next E m 5 (cs m 5) (m 20 0 0 6) (by omega) hTF.1 (hTF.1.S kC _) (by omega)) (ok10 (by omega)) rfl rfl (by decide) rfl rfl (Nat.le_of_ble_eq_true rfl) ?_
  refine T.istore_n (ls' := [some (rf E 20 0 0), some (.int (iI 3)), some (rf E 10 (2 + 3) 0), some (.int (iI (nextS (bk m (2 + 5)) (cs m 5) (m 20 0 0 6)))), none, none]) dX7_tryFrom_15 rfl ?_
  refine T.iconst dX7_tryFrom_16 ?_
  refine T.istore (ls' := [some (rf E 20 0 0), some (.int (iI 3)), some (rf E 10 (2 + 3) 0), some (.int (iI (nextS (bk m (2 + 5)) (cs m 5) (m 20 0 0 6)))), some (.int (iI 0)), none]) dX7_tryFrom_17 rfl ?_
  refine c_tf_a E 7 (by omega) m 5 3 (by omega) hTF.1 _ _ 0 (cs m 5) rfl (by omega) (hTF.1.S kC _) hTF.2.2.2 ?_
  have qc : 0 ≤ m 20 0 0 5 ∧ m 20 0 0 5 ≤ 3 := hTF.1 20 0 0 5
  have h1 := atL_inv (b := 2 + 5) (q := 16 + 5) (y := m 20 0 0 6) hTF.1 qc.1 12 (cs m 5) (hTF.1.S kC _) hTF.2.2.2
  exact c_tf_54b E m _ hTF.1 h1.1 h1.2 hTF.2.1
theorem c_try (E : Ev) : ∀ (r : Nat), r ≤ 3 → ∀ m, TF m (5 - r) → CT E (7 + r) mX7_tryFrom [rf E 20 0 0, .int (iI (3 - (r : Int)))] (hp E m) none (hp E (tfM r m))
  | 0, _, m, h => by
    have h0 := c_try_base E m h
    rw [wrC_self] at h0
    exact h0
  | r + 1, hr, m, h => by
    obtain ⟨dp, hdp⟩ : ∃ dp : Nat, dp + r = 2 := ⟨2 - r, by omega⟩
    have e4 : 4 - r = 2 + dp := by omega
    have e5 : 5 - (r + 1) = 2 + dp := by omega
    rw [e5] at h
    have h0 := c_try_step E (7 + r) dp (by omega) (by omega) (tfM r) (fun m hm => by
      have h1 := c_try E r (by omega) m (by rw [show 5 - r = 2 + dp + 1 by omega]; exact hm)
      rw [show (3 : Int) - (r : Int) = (dp : Int) + 1 by omega] at h1
      exact h1) (fun m hm => by
      have h1 := tfM_ok r m (by omega) (by rw [show 5 - r = 2 + dp + 1 by omega]; exact hm)
      rw [show 5 - r = 2 + dp + 1 by omega, show 8 - r = 2 + dp + 4 by omega] at h1
      exact h1) m h
    rw [wrC_self] at h0
    rw [show (3 : Int) - ((r + 1 : Nat) : Int) = (dp : Int) by omega, show tfM (r + 1) m = (if tfN m (4 - r) < 0 ∨ m 20 0 0 5 ≤ tfN m (4 - r) then tfE m (4 - r) else tfL (tfM r) (4 - r) (tfN m (4 - r)).toNat (m 1 (2 + (4 - r)) 0 1 + 1).toNat (-1) (tfB m (4 - r))) from rfl, e4]
    exact h0
