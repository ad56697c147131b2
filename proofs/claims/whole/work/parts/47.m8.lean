def cnM (S : PS) (t : Int) : Nat → Int
  | 0 => 0
  | d + 1 => cnM S t d + (if S 31 (8 * d + 5) = t then 1 else 0)
theorem cnM_bd (S : PS) (t : Int) : ∀ n : Nat, 0 ≤ cnM S t n ∧ cnM S t n ≤ n
  | 0 => by unfold cnM; omega
  | n + 1 => by
    have := cnM_bd S t n
    unfold cnM
    split <;> omega
def frD (D : PS) (y t fr : Int) : Nat → Int
  | 0 => fr
  | d + 1 => if D 31 (8 * d + 5) = t ∧ (y < D 31 (8 * d + 1) ∨ 0 < D 39 d + D 40 d) then y + 1 else frD D y t fr d
noncomputable def frL (S : PS) (l : Nat) (t : Int) : Nat → Int
  | 0 => 0
  | x + 1 => frD (mdS S l (x + 1)) x t (frL S l t x) (S 29 0).toNat
theorem frD_bd {D : PS} {y t fr : Int} (h : 0 ≤ fr ∧ fr ≤ y) : ∀ n, 0 ≤ frD D y t fr n ∧ frD D y t fr n ≤ y + 1
  | 0 => by unfold frD; omega
  | n + 1 => by
    have := frD_bd (D := D) (t := t) h n
    unfold frD
    split <;> omega
theorem frL_bd {S : PS} {l : Nat} {t : Int} : ∀ x : Nat, 0 ≤ frL S l t x ∧ frL S l t x ≤ x
  | 0 => by unfold frL; omega
  | x + 1 => by
    have h := frD_bd (D := mdS S l (x + 1)) (t := t) (frL_bd (S := S) (l := l) (t := t) x) (S 29 0).toNat
    show 0 ≤ frD _ _ _ _ _ ∧ frD _ _ _ _ _ ≤ ((x + 1 : Nat) : Int)
    omega
set_option maxHeartbeats 4000000 in
set_option maxRecDepth 100000 in
theorem n_free_c (E : Ev) (m : Mem) (D : PS) (l : Nat) (t fr : Int) (x n : Nat) (hD : InvS kM D) (hn : D 29 0 = n) (ht : 0 ≤ t ∧ t ≤ 5) (hx : x ≤ 299) (hfr : 0 ≤ fr ∧ fr ≤ x) (Q : Option Value → Hp → Prop) (hK : T E 9 mX9_free 182 [some (rf E 29 0 0), some (.int (iI (l : Int))), some (.int (iI t)), none, some (.int (iI (frD D x t fr n))), some (.int (iI (x : Int))), none, none] [] (hp E (wrM m D)) Q) : ∀ (k : Nat) (d : Nat), n - d = k → d ≤ n → T E 9 mX9_free 100 [some (rf E 29 0 0), some (.int (iI (l : Int))), some (.int (iI t)), none, some (.int (iI (frD D x t fr d))), some (.int (iI (x : Int))), some (.int (iI (d : Int))), none] [] (hp E (wrM m D)) Q := by
  have hn8 : 0 ≤ D 29 0 ∧ D 29 0 ≤ 8 := hD 29 0 rfl
  intro k
  induction k using Nat.strongRecOn with
  | ind k ih =>
    intro d hk hdn
    have b1 : 0 ≤ D 39 d ∧ D 39 d ≤ 99990000 := hD 39 d rfl
    have b2 : 0 ≤ D 40 d ∧ D 40 d ≤ 4000000000 := hD 40 d rfl
    have b3 := frD_bd (D := D) (t := t) hfr d
    refine T.iload dX9_free_100 rfl ?_
    refine T.aload_n dX9_free_102 rfl ?_
    refine T.gI (z := D 29 0) dX9_free_103 fo_X9_87 ok29 rfl rfl (wrM_c rfl) ?_
    have q1 : 0 ≤ D 29 0 ∧ D 29 0 ≤ 8 := hD 29 0 rfl
    refine T.icmp_ge 182 dX9_free_106 (by unfold rg; omega) (by unfold rg; omega) (fun c2 => ?_) (fun c2 => ?_)
    · refine T.fgt (ls' := [some (rf E 29 0 0), some (.int (iI (l : Int))), some (.int (iI t)), none, some (.int (iI (frD D x t fr d))), some (.int (iI (x : Int))), none, none]) (by simp [lsw]) ?_
      rw [show d = n from by omega]
      exact hK
    · refine T.aload_n dX9_free_109 rfl ?_
      refine T.mget (v := rf E 31 0 0) dX9_free_110 fo_X9_7 ok29 rfl rfl ?_
      refine T.bipush dX9_free_113 ?_
      refine T.iload dX9_free_115 rfl ?_
      refine T.imul dX9_free_117 ?_
      refine T.iconst dX9_free_118 ?_
      refine T.iadd dX9_free_119 ?_
      refine T.aI (z := D 31 ((8 * d) + 5)) (x := (8 * d) + 5) dX9_free_120 ok31 (fun _ => rfl) (by omega) (by omega) (wrM_c rfl) ?_
      have q3 : -1 ≤ D 31 ((8 * d) + 5) ∧ D 31 ((8 * d) + 5) ≤ 9999 := hD 31 ((8 * d) + 5) rfl
      refine T.iload_n dX9_free_121 rfl ?_
      refine T.icmp_ne 157 dX9_free_122 (by unfold rg; omega) (by unfold rg; omega) (fun c4 => ?_) (fun c4 => ?_)
      · refine T.iconst dX9_free_157 ?_
        refine T.istore (ls' := [some (rf E 29 0 0), some (.int (iI (l : Int))), some (.int (iI t)), none, some (.int (iI (frD D x t fr d))), some (.int (iI (x : Int))), some (.int (iI (d : Int))), some (.int (iI 0))]) dX9_free_158 rfl ?_
        refine T.iload dX9_free_160 rfl ?_
        refine T.if_eq 172 dX9_free_162 (by unfold rg; omega) (fun c5 => ?_) (fun c5 => ?_)
        · refine T.iload dX9_free_172 rfl ?_
          refine T.istore (ls' := [some (rf E 29 0 0), some (.int (iI (l : Int))), some (.int (iI t)), none, some (.int (iI (frD D x t fr d))), some (.int (iI (x : Int))), some (.int (iI (d : Int))), some (.int (iI 0))]) dX9_free_174 rfl ?_
          refine T.iinc (ls' := [some (rf E 29 0 0), some (.int (iI (l : Int))), some (.int (iI t)), none, some (.int (iI (frD D x t fr d))), some (.int (iI (x : Int))), some (.int (iI ((d : Int) + 1))), some (.int (iI 0))]) dX9_free_176 rfl rfl ?_
          refine T.goto 100 dX9_free_179 ?_
          refine T.fgt (ls' := [some (rf E 29 0 0), some (.int (iI (l : Int))), some (.int (iI t)), none, some (.int (iI (frD D x t fr d))), some (.int (iI (x : Int))), some (.int (iI ((d : Int) + 1))), none]) (by simp [lsw]) ?_
          have h0 := ih (n - (d + 1)) (by omega) (d + 1) rfl (by omega)
          rw [show frD D x t fr (d + 1) = frD D x t fr d from if_neg (by omega)] at h0
          exact h0
        · exact absurd c5 (by omega)
      · refine T.iload dX9_free_125 rfl ?_
        refine T.aload_n dX9_free_127 rfl ?_
        refine T.mget (v := rf E 31 0 0) dX9_free_128 fo_X9_7 ok29 rfl rfl ?_
        refine T.bipush dX9_free_131 ?_
        refine T.iload dX9_free_133 rfl ?_
        refine T.imul dX9_free_135 ?_
        refine T.iconst dX9_free_136 ?_
        refine T.iadd dX9_free_137 ?_
        refine T.aI (z := D 31 ((8 * d) + 1)) (x := (8 * d) + 1) dX9_free_138 ok31 (fun _ => rfl) (by omega) (by omega) (wrM_c rfl) ?_
        have q6 : -1 ≤ D 31 ((8 * d) + 1) ∧ D 31 ((8 * d) + 1) ≤ 9999 := hD 31 ((8 * d) + 1) rfl
        refine T.icmp_lt 153 dX9_free_139 (by unfold rg; omega) (by unfold rg; omega) (fun c7 => ?_) (fun c7 => ?_)
        · refine T.iconst dX9_free_153 ?_
          refine T.goto 158 dX9_free_154 ?_
          refine T.istore (ls' := [some (rf E 29 0 0), some (.int (iI (l : Int))), some (.int (iI t)), none, some (.int (iI (frD D x t fr d))), some (.int (iI (x : Int))), some (.int (iI (d : Int))), some (.int (iI 1))]) dX9_free_158 rfl ?_
          refine T.iload dX9_free_160 rfl ?_
          refine T.if_eq 172 dX9_free_162 (by unfold rg; omega) (fun c8 => ?_) (fun c8 => ?_)
          · exact absurd c8 (by omega)
          · refine T.iload dX9_free_165 rfl ?_
            refine T.iconst dX9_free_167 ?_
            refine T.iadd dX9_free_168 ?_
            refine T.goto 174 dX9_free_169 ?_
            refine T.istore (ls' := [some (rf E 29 0 0), some (.int (iI (l : Int))), some (.int (iI t)), none, some (.int (iI ((x : Int) + 1))), some (.int (iI (x : Int))), some (.int (iI (d : Int))), some (.int (iI 1))]) dX9_free_174 rfl ?_
            refine T.iinc (ls' := [some (rf E 29 0 0), some (.int (iI (l : Int))), some (.int (iI t)), none, some (.int (iI ((x : Int) + 1))), some (.int (iI (x : Int))), some (.int (iI ((d : Int) + 1))), some (.int (iI 1))]) dX9_free_176 rfl rfl ?_
            refine T.goto 100 dX9_free_179 ?_
            refine T.fgt (ls' := [some (rf E 29 0 0), some (.int (iI (l : Int))), some (.int (iI t)), none, some (.int (iI ((x : Int) + 1))), some (.int (iI (x : Int))), some (.int (iI ((d : Int) + 1))), none]) (by simp [lsw]) ?_
            have h0 := ih (n - (d + 1)) (by omega) (d + 1) rfl (by omega)
            rw [show frD D x t fr (d + 1) = (x : Int) + 1 from if_pos (by omega)] at h0
            exact h0
        · refine T.aload_n dX9_free_142 rfl ?_
          refine T.iload dX9_free_143 rfl ?_
          refine T.cV1 (As := [.int (iI (d : Int))]) (st := []) dX9_free_145 lk_X9_137 (n_leftOf E m D d (by omega)) ok29 rfl rfl (by decide) rfl rfl (Nat.le_of_ble_eq_true rfl) ?_
          refine T.lconst0 dX9_free_148 ?_
          refine T.lcmp_le 157 dX9_free_149 dX9_free_150 (by unfold rl; omega) (by unfold rl; omega) (fun c9 => ?_) (fun c9 => ?_)
          · refine T.iconst dX9_free_157 ?_
            refine T.istore (ls' := [some (rf E 29 0 0), some (.int (iI (l : Int))), some (.int (iI t)), none, some (.int (iI (frD D x t fr d))), some (.int (iI (x : Int))), some (.int (iI (d : Int))), some (.int (iI 0))]) dX9_free_158 rfl ?_
            refine T.iload dX9_free_160 rfl ?_
            refine T.if_eq 172 dX9_free_162 (by unfold rg; omega) (fun c10 => ?_) (fun c10 => ?_)
            · refine T.iload dX9_free_172 rfl ?_
              refine T.istore (ls' := [some (rf E 29 0 0), some (.int (iI (l : Int))), some (.int (iI t)), none, some (.int (iI (frD D x t fr d))), some (.int (iI (x : Int))), some (.int (iI (d : Int))), some (.int (iI 0))]) dX9_free_174 rfl ?_
              refine T.iinc (ls' := [some (rf E 29 0 0), some (.int (iI (l : Int))), some (.int (iI t)), none, some (.int (iI (frD D x t fr d))), some (.int (iI (x : Int))), some (.int (iI ((d : Int) + 1))), some (.int (iI 0))]) dX9_free_176 rfl rfl ?_
              refine T.goto 100 dX9_free_179 ?_
              refine T.fgt (ls' := [some (rf E 29 0 0), some (.int (iI (l : Int))), some (.int (iI t)), none, some (.int (iI (frD D x t fr d))), some (.int (iI (x : Int))), some (.int (iI ((d : Int) + 1))), none]) (by simp [lsw]) ?_
              have h0 := ih (n - (d + 1)) (by omega) (d + 1) rfl (by omega)
              rw [show frD D x t fr (d + 1) = frD D x t fr d from if_neg (by omega)] at h0
              exact h0
            · exact absurd c10 (by omega)
          · refine T.iconst dX9_free_153 ?_
            refine T.goto 158 dX9_free_154 ?_
            refine T.istore (ls' := [some (rf E 29 0 0), some (.int (iI (l : Int))), some (.int (iI t)), none, some (.int (iI (frD D x t fr d))), some (.int (iI (x : Int))), some (.int (iI (d : Int))), some (.int (iI 1))]) dX9_free_158 rfl ?_
            refine T.iload dX9_free_160 rfl ?_
            refine T.if_eq 172 dX9_free_162 (by unfold rg; omega) (fun c11 => ?_) (fun c11 => ?_)
            · exact absurd c11 (by omega)
            · refine T.iload dX9_free_165 rfl ?_
              refine T.iconst dX9_free_167 ?_
              refine T.iadd dX9_free_168 ?_
              refine T.goto 174 dX9_free_169 ?_
              refine T.istore (ls' := [some (rf E 29 0 0), some (.int (iI (l : Int))), some (.int (iI t)), none, some (.int (iI ((x : Int) + 1))), some (.int (iI (x : Int))), some (.int (iI (d : Int))), some (.int (iI 1))]) dX9_free_174 rfl ?_
              refine T.iinc (ls' := [some (rf E 29 0 0), some (.int (iI (l : Int))), some (.int (iI t)), none, some (.int (iI ((x : Int) + 1))), some (.int (iI (x : Int))), some (.int (iI ((d : Int) + 1))), some (.int (iI 1))]) dX9_free_176 rfl rfl ?_
              refine T.goto 100 dX9_free_179 ?_
              refine T.fgt (ls' := [some (rf E 29 0 0), some (.int (iI (l : Int))), some (.int (iI t)), none, some (.int (iI ((x : Int) + 1))), some (.int (iI (x : Int))), some (.int (iI ((d : Int) + 1))), none]) (by simp [lsw]) ?_
              have h0 := ih (n - (d + 1)) (by omega) (d + 1) rfl (by omega)
              rw [show frD D x t fr (d + 1) = (x : Int) + 1 from if_pos (by omega)] at h0
              exact h0
set_option maxHeartbeats 4000000 in
set_option maxRecDepth 100000 in
theorem n_free_b (E : Ev) (m : Mem) (S : PS) (l : Nat) (t : Int) (hS : InvS kM S) (hO : mOK S) (hl : l < 2) (ht : 0 ≤ t ∧ t ≤ 5) (N : Nat) (hN : N = 300) : ∀ (k : Nat) (x : Nat) (D : PS) (fr : Int), N - x = k → x ≤ N → D = mdS S l x → fr = frL S l t x → T E 9 mX9_free 82 [some (rf E 29 0 0), some (.int (iI (l : Int))), some (.int (iI t)), none, some (.int (iI fr)), some (.int (iI (x : Int))), none, none] [] (hp E (wrM m D)) (fun r' h' => r' = some (.int (iI (if 299 < frL S l t N then (-4 : Int) else frL S l t N))) ∧ h' = hp E (wrM m (mdS S l N))) := by
  intro k
  induction k using Nat.strongRecOn with
  | ind k ih =>
    intro x D fr hk hxN hD hfr
    have i0 := md_ok (l := l) hS hO x (by omega)
    rw [← hD] at i0
    have hfb := frL_bd (S := S) (l := l) (t := t) x
    rw [← hfr] at hfb
    refine T.iload dX9_free_82 rfl ?_
    refine T.sipush dX9_free_84 ?_
    refine T.icmp_gt 188 dX9_free_87 (by unfold rg; omega) (by unfold rg; omega) (fun c1 => ?_) (fun c1 => ?_)
    · refine T.iload dX9_free_188 rfl ?_
      refine T.sipush dX9_free_190 ?_
      refine T.icmp_le 201 dX9_free_193 (by unfold rg; omega) (by unfold rg; omega) (fun c2 => ?_) (fun c2 => ?_)
      · refine T.iload dX9_free_201 rfl ?_
        rw [show frL S l t N = fr from by rw [hfr, show N = x from by omega], show mdS S l N = D from by rw [hD, show N = x from by omega]]
        exact T.iret dX9_free_203 ⟨by rw [if_neg (by omega)], rfl⟩
      · refine T.bipush dX9_free_196 ?_
        refine T.goto 203 dX9_free_198 ?_
        rw [show frL S l t N = fr from by rw [hfr, show N = x from by omega], show mdS S l N = D from by rw [hD, show N = x from by omega]]
        exact T.iret dX9_free_203 ⟨by rw [if_pos (by omega)], rfl⟩
    · refine T.aload_n dX9_free_90 rfl ?_
      refine T.iload_n dX9_free_91 rfl ?_
      refine T.iload dX9_free_92 rfl ?_
      refine T.cV0 (As := [.int (iI (l : Int)), .int (iI (x : Int))]) (st := []) dX9_free_94 lk_X9_183 (n_goDay E m D l (x : Int) i0.1 (hO.wf i0.2.2.2) i0.2.1 i0.2.2.1 hl (by omega)) ok29 rfl rfl (by decide) rfl rfl (Nat.le_of_ble_eq_true rfl) ?_
      have g1 := gdS_ok (l := l) i0.1 (hO.wf i0.2.2.2) i0.2.1 i0.2.2.1 (show 0 ≤ (x : Int) ∧ (x : Int) ≤ 299 by omega)
      refine T.iconst dX9_free_97 ?_
      refine T.istore (ls' := [some (rf E 29 0 0), some (.int (iI (l : Int))), some (.int (iI t)), none, some (.int (iI fr)), some (.int (iI (x : Int))), some (.int (iI 0)), none]) dX9_free_98 rfl ?_
      have e0 : gdS D l (x : Int) 29 0 = S 29 0 := (i0.2.2.2.tr g1.2.2.2).2 0 (by decide)
      have q0 : 0 ≤ S 29 0 ∧ S 29 0 ≤ 8 := hS 29 0 rfl
      refine n_free_c E m (gdS D l (x : Int)) l t fr x (S 29 0).toNat g1.1 (by rw [e0]; omega) ht (by omega) hfb _ ?_ _ 0 rfl (Nat.zero_le _)
      refine T.iinc (ls' := [some (rf E 29 0 0), some (.int (iI (l : Int))), some (.int (iI t)), none, some (.int (iI (frD (gdS D l (x : Int)) (x : Int) t fr (S 29 0).toNat))), some (.int (iI ((x : Int) + 1))), none, none]) dX9_free_182 rfl rfl ?_
      refine T.goto 82 dX9_free_185 ?_
      refine ih (N - (x + 1)) (by omega) (x + 1) _ _ rfl (by omega) (by rw [hD]; rfl) ?_
      rw [show frL S l t (x + 1) = frD (mdS S l (x + 1)) x t (frL S l t x) (S 29 0).toNat from rfl, ← hfr, show mdS S l (x + 1) = gdS D l (x : Int) from by rw [hD]; rfl]
noncomputable def nfreeR (S : PS) (N : Nat) (l t : Int) : Int := if ¬ ((0 ≤ l ∧ l ≤ 1) ∧ (0 ≤ t ∧ t ≤ 5)) then -1 else if cnM S t (S 29 0).toNat = 0 then -2 else if 299 < (frL S l.toNat t N) then -4 else (frL S l.toNat t N)
noncomputable def nfreeS (S : PS) (N : Nat) (l t : Int) : PS := if ¬ ((0 ≤ l ∧ l ≤ 1) ∧ (0 ≤ t ∧ t ≤ 5)) then S else if cnM S t (S 29 0).toNat = 0 then S else if 299 < (frL S l.toNat t N) then (mdS S l.toNat N) else (mdS S l.toNat N)
set_option maxHeartbeats 4000000 in
set_option maxRecDepth 100000 in
theorem n_free_a (E : Ev) (m : Mem) (S : PS) (N : Nat) (l t : Int) (hS : InvS kM S) (hN : N = 300) (hO : mOK S) (hl : 0 ≤ l ∧ l ≤ 1) (ht : 0 ≤ t ∧ t ≤ 5) (n : Nat) (hn : S 29 0 = n) : ∀ (k : Nat) (d : Nat), n - d = k → d ≤ n → T E 9 mX9_free 26 [some (rf E 29 0 0), some (.int (iI l)), some (.int (iI t)), some (.int (iI (cnM S t d))), some (.int (iI (d : Int))), none, none, none] [] (hp E (wrM m S)) (fun r' h' => r' = some (.int (iI (nfreeR S N l t))) ∧ h' = hp E (wrM m (nfreeS S N l t))) := by
  have hn8 : 0 ≤ S 29 0 ∧ S 29 0 ≤ 8 := hS 29 0 rfl
  intro k
  induction k using Nat.strongRecOn with
  | ind k ih =>
    intro d hk hdn
    have hcb := cnM_bd S t d
    refine T.iload dX9_free_26 rfl ?_
    refine T.aload_n dX9_free_28 rfl ?_
    refine T.gI (z := S 29 0) dX9_free_29 fo_X9_87 ok29 rfl rfl (wrM_c rfl) ?_
    have q1 : 0 ≤ S 29 0 ∧ S 29 0 ≤ 8 := hS 29 0 rfl
    refine T.icmp_ge 65 dX9_free_32 (by unfold rg; omega) (by unfold rg; omega) (fun c2 => ?_) (fun c2 => ?_)
    · have hcn : cnM S t (S 29 0).toNat = cnM S t d := by rw [show (S 29 0).toNat = d from by omega]
      refine T.iload_n dX9_free_65 rfl ?_
      refine T.if_ne 72 dX9_free_66 (by unfold rg; omega) (fun c3 => ?_) (fun c3 => ?_)
      · refine T.iconst dX9_free_72 ?_
        refine T.istore (ls' := [some (rf E 29 0 0), some (.int (iI l)), some (.int (iI t)), some (.int (iI (cnM S t d))), some (.int (iI 0)), none, none, none]) dX9_free_73 rfl ?_
        refine T.aload_n dX9_free_75 rfl ?_
        refine T.cV0 (As := []) (st := []) dX9_free_76 lk_X9_180 (n_begin E m S) ok29 rfl rfl (by decide) rfl rfl (Nat.le_of_ble_eq_true rfl) ?_
        refine T.iconst dX9_free_79 ?_
        refine T.istore (ls' := [some (rf E 29 0 0), some (.int (iI l)), some (.int (iI t)), some (.int (iI (cnM S t d))), some (.int (iI 0)), some (.int (iI 0)), none, none]) dX9_free_80 rfl ?_
        refine T.fgt (ls' := [some (rf E 29 0 0), some (.int (iI l)), some (.int (iI t)), none, some (.int (iI 0)), some (.int (iI 0)), none, none]) (by simp [lsw]) ?_
        rw [show nfreeR S N l t = (if 299 < (frL S l.toNat t N) then (-4 : Int) else (frL S l.toNat t N)) from by unfold nfreeR; rw [if_neg (by omega), if_neg (by rw [hcn]; omega)], show nfreeS S N l t = (mdS S l.toNat N) from by unfold nfreeS; rw [if_neg (by omega), if_neg (by rw [hcn]; omega), ite_self]]
        have h0 := n_free_b E m S l.toNat t hS hO (by omega) ht N hN _ 0 _ 0 rfl (Nat.zero_le _) rfl rfl
        rw [show (((l).toNat : Nat) : Int) = l from by omega] at h0
        exact h0
      · refine T.bipush dX9_free_69 ?_
        exact T.iret dX9_free_71 ⟨by rw [show nfreeR S N l t = -2 from by unfold nfreeR; rw [if_neg (by omega), if_pos (by rw [hcn]; omega)]], by rw [show nfreeS S N l t = S from by unfold nfreeS; rw [if_neg (by omega), if_pos (by rw [hcn]; omega)]]⟩
    · refine T.iload_n dX9_free_35 rfl ?_
      refine T.aload_n dX9_free_36 rfl ?_
      refine T.mget (v := rf E 31 0 0) dX9_free_37 fo_X9_7 ok29 rfl rfl ?_
      refine T.bipush dX9_free_40 ?_
      refine T.iload dX9_free_42 rfl ?_
      refine T.imul dX9_free_44 ?_
      refine T.iconst dX9_free_45 ?_
      refine T.iadd dX9_free_46 ?_
      refine T.aI (z := S 31 ((8 * d) + 5)) (x := (8 * d) + 5) dX9_free_47 ok31 (fun _ => rfl) (by omega) (by omega) (wrM_c rfl) ?_
      have q4 : -1 ≤ S 31 ((8 * d) + 5) ∧ S 31 ((8 * d) + 5) ≤ 9999 := hS 31 ((8 * d) + 5) rfl
      refine T.iload_n dX9_free_48 rfl ?_
      refine T.icmp_ne 56 dX9_free_49 (by unfold rg; omega) (by unfold rg; omega) (fun c5 => ?_) (fun c5 => ?_)
      · refine T.iconst dX9_free_56 ?_
        refine T.iadd dX9_free_57 ?_
        refine T.istore_n (ls' := [some (rf E 29 0 0), some (.int (iI l)), some (.int (iI t)), some (.int (iI ((cnM S t d) + 0))), some (.int (iI (d : Int))), none, none, none]) dX9_free_58 rfl ?_
        refine T.iinc (ls' := [some (rf E 29 0 0), some (.int (iI l)), some (.int (iI t)), some (.int (iI ((cnM S t d) + 0))), some (.int (iI ((d : Int) + 1))), none, none, none]) dX9_free_59 rfl rfl ?_
        refine T.goto 26 dX9_free_62 ?_
        have h0 := ih (n - (d + 1)) (by omega) (d + 1) rfl (by omega)
        rw [show cnM S t (d + 1) = (cnM S t d) + 0 from by show cnM S t d + (if S 31 (8 * d + 5) = t then 1 else 0) = _; rw [if_neg (by omega)]] at h0
        exact h0
      · refine T.iconst dX9_free_52 ?_
        refine T.goto 57 dX9_free_53 ?_
        refine T.iadd dX9_free_57 ?_
        refine T.istore_n (ls' := [some (rf E 29 0 0), some (.int (iI l)), some (.int (iI t)), some (.int (iI ((cnM S t d) + 1))), some (.int (iI (d : Int))), none, none, none]) dX9_free_58 rfl ?_
        refine T.iinc (ls' := [some (rf E 29 0 0), some (.int (iI l)), some (.int (iI t)), some (.int (iI ((cnM S t d) + 1))), some (.int (iI ((d : Int) + 1))), none, none, none]) dX9_free_59 rfl rfl ?_
        refine T.goto 26 dX9_free_62 ?_
        have h0 := ih (n - (d + 1)) (by omega) (d + 1) rfl (by omega)
        rw [show cnM S t (d + 1) = (cnM S t d) + 1 from by show cnM S t d + (if S 31 (8 * d + 5) = t then 1 else 0) = _; rw [if_pos (by omega)]] at h0
        exact h0
set_option maxHeartbeats 4000000 in
set_option maxRecDepth 100000 in
theorem n_free (E : Ev) (m : Mem) (S : PS) (N : Nat) (l t : Int) (hS : InvS kM S) (hN : N = 300) (hO : mOK S) (h1 : rg l) (h2 : rg t) : CT E 9 mX9_free [rf E 29 0 0, .int (iI l), .int (iI t)] (hp E (wrM m S)) (some (.int (iI (nfreeR S N l t)))) (hp E (wrM m (nfreeS S N l t))) := by
  refine CT.go okX9_free (Nat.le_of_ble_eq_true rfl) ?_
  show T E 9 mX9_free 0 [some (rf E 29 0 0), some (.int (iI l)), some (.int (iI t)), none, none, none, none, none] [] (hp E (wrM m S)) _
  unfold rg at h1 h2
  refine T.iload_n dX9_free_0 rfl ?_
  refine T.cS1 (As := [.int (iI l)]) (st := []) dX9_free_1 lk_X9_129 (n_isLaw E _ (by unfold rg; omega)) (by decide) rfl rfl (Nat.le_of_ble_eq_true rfl) ?_
  refine T.ifB_eq 19 dX9_free_4 (fun c1 => ?_) (fun c1 => ?_)
  · refine T.iconst dX9_free_19 ?_
    exact T.iret dX9_free_20 ⟨congrArg (fun z => some (Value.int (iI z))) (Eq.symm (show nfreeR S N l t = (-1) from by unfold nfreeR; rw [if_pos (by omega)] <;> first | rfl | omega)), congrArg (fun z => hp E (wrM m z)) (Eq.symm (show nfreeS S N l t = S from by unfold nfreeS; rw [if_pos (by omega)] <;> rfl))⟩
  · refine T.iload_n dX9_free_7 rfl ?_
    refine T.i2l dX9_free_8 (by unfold rg; omega) ?_
    refine T.lconst0 dX9_free_9 ?_
    refine T.ldc2 dX9_free_10 kl_X9_105 ?_
    refine T.cS1 (As := [.long (lI t), .long (lI 0), .long (lI 5)]) (st := []) dX9_free_13 lk_X9_83 (n_in E _ (by unfold rl; omega) (by unfold rl; omega) (by unfold rl; omega)) (by decide) rfl rfl (Nat.le_of_ble_eq_true rfl) ?_
    refine T.ifB_ne 21 dX9_free_16 (fun c2 => ?_) (fun c2 => ?_)
    · refine T.iconst dX9_free_21 ?_
      refine T.istore_n (ls' := [some (rf E 29 0 0), some (.int (iI l)), some (.int (iI t)), some (.int (iI 0)), none, none, none, none]) dX9_free_22 rfl ?_
      refine T.iconst dX9_free_23 ?_
      refine T.istore (ls' := [some (rf E 29 0 0), some (.int (iI l)), some (.int (iI t)), some (.int (iI 0)), some (.int (iI 0)), none, none, none]) dX9_free_24 rfl ?_
      have hn8 : 0 ≤ S 29 0 ∧ S 29 0 ≤ 8 := hS 29 0 rfl
      exact n_free_a E m S N l t hS hN hO (by omega) (by omega) _ (Int.toNat_of_nonneg hn8.1).symm _ 0 rfl (Nat.zero_le _)
    · refine T.iconst dX9_free_19 ?_
      exact T.iret dX9_free_20 ⟨congrArg (fun z => some (Value.int (iI z))) (Eq.symm (show nfreeR S N l t = (-1) from by unfold nfreeR; rw [if_pos (by omega)] <;> first | rfl | omega)), congrArg (fun z => hp E (wrM m z)) (Eq.symm (show nfreeS S N l t = S from by unfold nfreeS; rw [if_pos (by omega)] <;> rfl))⟩
theorem mOK.up33 {S : PS} {q : Nat} {v : Int} (h : mOK S) (hv : ∀ p, (q = 4 * p → 0 ≤ v ∧ v ≤ 299) ∧ (q = 4 * p + 1 → 0 ≤ v ∧ v ≤ 9999) ∧ (q = 4 * p + 2 → -1 ≤ v ∧ v ≤ 7) ∧ (q = 4 * p + 3 → -1 ≤ v ∧ v ≤ 7)) : mOK (upT S 33 q v) := by
  refine ⟨fun d hd => ?_, fun p hp => ?_⟩
  · rw [upT_k (by decide)] at hd
    rw [upT_k (by decide), upT_k (by decide), upT_k (by decide)]
    exact h.1 d hd
  · rw [upT_k (by decide)] at hp
    obtain ⟨a1, a2, a3, a4⟩ := h.2 p hp
    obtain ⟨v1, v2, v3, v4⟩ := hv p
    refine ⟨?_, ?_, ?_, ?_⟩
    · by_cases e : 4 * p = q
      · subst e; rw [upT_self]; exact v1 rfl
      · rw [upT_x e]; exact a1
    · by_cases e : 4 * p + 1 = q
      · subst e; rw [upT_self]; exact v2 rfl
      · rw [upT_x e]; exact a2
    · by_cases e : 4 * p + 2 = q
      · subst e; rw [upT_self]; exact v3 rfl
      · rw [upT_x e]; exact a3
    · by_cases e : 4 * p + 3 = q
      · subst e; rw [upT_self]; exact v4 rfl
      · rw [upT_x e]; exact a4
noncomputable def owX (X : PS) (l : Nat) (y : Int) : Int := owM (mdS X l (y + 1).toNat) (X 29 0).toNat
theorem owX_bd {X : PS} {l : Nat} {y : Int} (hX : InvS kM X) (hO : mOK X) (hy : 0 ≤ y ∧ y ≤ 299) : 0 ≤ owX X l y ∧ owX X l y ≤ 32799920000 := by
  have q0 : 0 ≤ X 29 0 ∧ X 29 0 ≤ 8 := hX 29 0 rfl
  have h := owM_bd (md_ok (l := l) hX hO (y + 1).toNat (by omega)).1 (X 29 0).toNat
  unfold owX
  omega
noncomputable def anN (l p : Nat) (y : Int) : Nat → Int → PS → Int → Int → PS × Int
  | 0, _, D, _, fd => (D, fd)
  | f + 1, b, D, mo, fd => if mo < owX (upT D 33 (4 * p + 3) b) l y then anN l p y f (b + 1) (mdS (upT D 33 (4 * p + 3) b) l (y + 1).toNat) (owX (upT D 33 (4 * p + 3) b) l y) b else anN l p y f (b + 1) (mdS (upT D 33 (4 * p + 3) b) l (y + 1).toNat) mo fd
noncomputable def hgN (l p : Nat) (y t : Int) : Nat → Int → PS → Int → PS × Int
  | 0, _, D, fd => (D, fd)
  | f + 1, v, D, fd => hgN l p y t f (v + 1) (mdS (upT D 33 (4 * p) v) l (y + 1).toNat) (if fd < 0 ∨ (t = 0 ∧ owX (upT D 33 (4 * p) v) l y < fd) ∨ (t ≠ 0 ∧ fd < owX (upT D 33 (4 * p) v) l y) then owX (upT D 33 (4 * p) v) l y else fd)
set_option maxHeartbeats 4000000 in
set_option maxRecDepth 100000 in
theorem n_ans_lp (E : Ev) (m : Mem) (l p : Nat) (y ws : Int) (hl : l < 2) (hp12 : p < 12) (hy : 0 ≤ y ∧ y ≤ 299) : ∀ (k : Nat) (b : Int) (D : PS) (mo fd : Int), (D 29 0 - b).toNat = k → InvS kM D → mOK D → (-1 ≤ b ∧ b ≤ D 29 0) → (-1 ≤ mo ∧ mo ≤ 32799920000) → (-1 ≤ fd ∧ fd ≤ 7) → T E 9 mX9_answer 48 [some (rf E 29 0 0), some (.int (iI (l : Int))), some (.int (iI (p : Int))), some (.int (iI y)), some (.int (iI ws)), some (.int (iI fd)), some (.long (lI mo)), none, some (.int (iI b)), none, none] [] (hp E (wrM m D)) (fun r' h' => r' = some (.int (iI (anN l p y k b D mo fd).2)) ∧ h' = hp E (wrM m (upT (anN l p y k b D mo fd).1 33 (4 * p + 3) ws))) := by
  intro k
  induction k using Nat.strongRecOn with
  | ind k ih =>
    intro b D mo fd hk hD hDO hb hmo hfd
    have hn8 : 0 ≤ D 29 0 ∧ D 29 0 ≤ 8 := hD 29 0 rfl
    refine T.iload dX9_answer_48 rfl ?_
    refine T.aload_n dX9_answer_50 rfl ?_
    refine T.gI (z := D 29 0) dX9_answer_51 fo_X9_87 ok29 rfl rfl (wrM_c rfl) ?_
    have q1 : 0 ≤ D 29 0 ∧ D 29 0 ≤ 8 := hD 29 0 rfl
    refine T.icmp_ge 99 dX9_answer_54 (by unfold rg; omega) (by unfold rg; omega) (fun c2 => ?_) (fun c2 => ?_)
    · refine T.aload_n dX9_answer_99 rfl ?_
      refine T.mget (v := rf E 33 0 0) dX9_answer_100 fo_X9_13 ok29 rfl rfl ?_
      refine T.iconst dX9_answer_103 ?_
      refine T.iload_n dX9_answer_104 rfl ?_
      refine T.imul dX9_answer_105 ?_
      refine T.iconst dX9_answer_106 ?_
      refine T.iadd dX9_answer_107 ?_
      refine T.iload dX9_answer_108 rfl ?_
      refine T.nist (x := (4 * p) + 3) dX9_answer_110 rfl ok33 (fun _ => rfl) (by omega) (by omega) ?_
      refine T.iload dX9_answer_111 rfl ?_
      obtain rfl : k = 0 := by omega
      exact T.iret dX9_answer_113 ⟨rfl, rfl⟩
    · refine T.aload_n dX9_answer_57 rfl ?_
      refine T.mget (v := rf E 33 0 0) dX9_answer_58 fo_X9_13 ok29 rfl rfl ?_
      refine T.iconst dX9_answer_61 ?_
      refine T.iload_n dX9_answer_62 rfl ?_
      refine T.imul dX9_answer_63 ?_
      refine T.iconst dX9_answer_64 ?_
      refine T.iadd dX9_answer_65 ?_
      refine T.iload dX9_answer_66 rfl ?_
      refine T.nist (x := (4 * p) + 3) dX9_answer_68 rfl ok33 (fun _ => rfl) (by omega) (by omega) ?_
      have hb2 : -1 ≤ b ∧ b ≤ 7 := by omega
      have hX : InvS kM (upT D 33 (4 * p + 3) b) := hD.up (by show -1 ≤ _ ∧ _ ≤ (9999 : Int); omega)
      have hXO : mOK (upT D 33 (4 * p + 3) b) := hDO.up33 (fun p => by omega)
      have ho := owX_bd (l := l) hX hXO hy
      have hm := md_ok (l := l) hX hXO (y + 1).toNat (by omega)
      obtain ⟨kk, hk2⟩ : ∃ kk, k = kk + 1 := ⟨k - 1, by omega⟩
      refine T.aload_n dX9_answer_69 rfl ?_
      refine T.iload_n dX9_answer_70 rfl ?_
      refine T.iload_n dX9_answer_71 rfl ?_
      refine T.cV1 (As := [.int (iI (l : Int)), .int (iI y)]) (st := []) dX9_answer_72 lk_X9_195 (n_owedOn E m (upT D 33 (4 * p + 3) b) l y hX hXO hl hy) ok29 rfl rfl (by decide) rfl rfl (Nat.le_of_ble_eq_true rfl) ?_
      refine T.lstore (ls' := [some (rf E 29 0 0), some (.int (iI (l : Int))), some (.int (iI (p : Int))), some (.int (iI y)), some (.int (iI ws)), some (.int (iI fd)), some (.long (lI mo)), none, some (.int (iI b)), some (.long (lI (owX (upT D 33 (4 * p + 3) b) l y))), none]) dX9_answer_75 rfl ?_
      refine T.lload dX9_answer_77 rfl ?_
      refine T.lload dX9_answer_79 rfl ?_
      refine T.lcmp_le 93 dX9_answer_81 dX9_answer_82 (by unfold rl; omega) (by unfold rl; omega) (fun c3 => ?_) (fun c3 => ?_)
      · refine T.iinc (ls' := [some (rf E 29 0 0), some (.int (iI (l : Int))), some (.int (iI (p : Int))), some (.int (iI y)), some (.int (iI ws)), some (.int (iI fd)), some (.long (lI mo)), none, some (.int (iI (b + 1))), some (.long (lI (owX (upT D 33 (4 * p + 3) b) l y))), none]) dX9_answer_93 rfl rfl ?_
        refine T.goto 48 dX9_answer_96 ?_
        refine T.fgt (ls' := [some (rf E 29 0 0), some (.int (iI (l : Int))), some (.int (iI (p : Int))), some (.int (iI y)), some (.int (iI ws)), some (.int (iI fd)), some (.long (lI mo)), none, some (.int (iI (b + 1))), none, none]) (by simp [lsw]) ?_
        have hq : anN l p y k b D mo fd = anN l p y kk (b + 1) (mdS (upT D 33 (4 * p + 3) b) l (y + 1).toNat) mo fd := by rw [hk2]; exact if_neg (by omega)
        rw [hq]
        exact ih kk (by omega) (b + 1) (mdS (upT D 33 (4 * p + 3) b) l (y + 1).toNat) _ _ (by rw [hm.2.2.2.2 0 (by decide), upT_k (by decide)]; omega) hm.1 (hXO.wf hm.2.2.2) (by rw [hm.2.2.2.2 0 (by decide), upT_k (by decide)]; omega) (by omega) (by omega)
      · refine T.lload dX9_answer_85 rfl ?_
        refine T.lstore (ls' := [some (rf E 29 0 0), some (.int (iI (l : Int))), some (.int (iI (p : Int))), some (.int (iI y)), some (.int (iI ws)), some (.int (iI fd)), some (.long (lI (owX (upT D 33 (4 * p + 3) b) l y))), none, some (.int (iI b)), some (.long (lI (owX (upT D 33 (4 * p + 3) b) l y))), none]) dX9_answer_87 rfl ?_
        refine T.iload dX9_answer_89 rfl ?_
        refine T.istore (ls' := [some (rf E 29 0 0), some (.int (iI (l : Int))), some (.int (iI (p : Int))), some (.int (iI y)), some (.int (iI ws)), some (.int (iI b)), some (.long (lI (owX (upT D 33 (4 * p + 3) b) l y))), none, some (.int (iI b)), some (.long (lI (owX (upT D 33 (4 * p + 3) b) l y))), none]) dX9_answer_91 rfl ?_
        refine T.iinc (ls' := [some (rf E 29 0 0), some (.int (iI (l : Int))), some (.int (iI (p : Int))), some (.int (iI y)), some (.int (iI ws)), some (.int (iI b)), some (.long (lI (owX (upT D 33 (4 * p + 3) b) l y))), none, some (.int (iI (b + 1))), some (.long (lI (owX (upT D 33 (4 * p + 3) b) l y))), none]) dX9_answer_93 rfl rfl ?_
        refine T.goto 48 dX9_answer_96 ?_
        refine T.fgt (ls' := [some (rf E 29 0 0), some (.int (iI (l : Int))), some (.int (iI (p : Int))), some (.int (iI y)), some (.int (iI ws)), some (.int (iI b)), some (.long (lI (owX (upT D 33 (4 * p + 3) b) l y))), none, some (.int (iI (b + 1))), none, none]) (by simp [lsw]) ?_
        have hq : anN l p y k b D mo fd = anN l p y kk (b + 1) (mdS (upT D 33 (4 * p + 3) b) l (y + 1).toNat) (owX (upT D 33 (4 * p + 3) b) l y) b := by rw [hk2]; exact if_pos (by omega)
        rw [hq]
        exact ih kk (by omega) (b + 1) (mdS (upT D 33 (4 * p + 3) b) l (y + 1).toNat) _ _ (by rw [hm.2.2.2.2 0 (by decide), upT_k (by decide)]; omega) hm.1 (hXO.wf hm.2.2.2) (by rw [hm.2.2.2.2 0 (by decide), upT_k (by decide)]; omega) (by omega) (by omega)
noncomputable def nanswerR (S : PS) (l p y : Int) : Int := if ¬ ((0 ≤ l ∧ l ≤ 1) ∧ (0 ≤ p ∧ p ≤ S 29 2 - 1) ∧ (0 ≤ y ∧ y ≤ 299)) then -101 else (anN l.toNat p.toNat y (S 29 0 + 1).toNat (-1) S (-1) (-1)).2
noncomputable def nanswerS (S : PS) (l p y : Int) : PS := if ¬ ((0 ≤ l ∧ l ≤ 1) ∧ (0 ≤ p ∧ p ≤ S 29 2 - 1) ∧ (0 ≤ y ∧ y ≤ 299)) then S else upT (anN l.toNat p.toNat y (S 29 0 + 1).toNat (-1) S (-1) (-1)).1 33 (4 * p.toNat + 3) (S 33 (4 * p + 3).toNat)
set_option maxHeartbeats 4000000 in
set_option maxRecDepth 100000 in
theorem n_answer (E : Ev) (m : Mem) (S : PS) (l p y : Int) (hS : InvS kM S) (hO : mOK S) (h1 : rg l) (h2 : rg p) (h3 : rg y) : CT E 9 mX9_answer [rf E 29 0 0, .int (iI l), .int (iI p), .int (iI y)] (hp E (wrM m S)) (some (.int (iI (nanswerR S l p y)))) (hp E (wrM m (nanswerS S l p y))) := by
  refine CT.go okX9_answer (Nat.le_of_ble_eq_true rfl) ?_
  show T E 9 mX9_answer 0 [some (rf E 29 0 0), some (.int (iI l)), some (.int (iI p)), some (.int (iI y)), none, none, none, none, none, none, none] [] (hp E (wrM m S)) _
  unfold rg at h1 h2 h3
  refine T.iload_n dX9_answer_0 rfl ?_
  refine T.cS1 (As := [.int (iI l)]) (st := []) dX9_answer_1 lk_X9_129 (n_isLaw E _ (by unfold rg; omega)) (by decide) rfl rfl (Nat.le_of_ble_eq_true rfl) ?_
  refine T.ifB_eq 22 dX9_answer_4 (fun c1 => ?_) (fun c1 => ?_)
  · refine T.bipush dX9_answer_22 ?_
    exact T.iret dX9_answer_24 ⟨congrArg (fun z => some (Value.int (iI z))) (Eq.symm (show nanswerR S l p y = (-101) from by unfold nanswerR; rw [if_pos (by omega)] <;> first | rfl | omega)), congrArg (fun z => hp E (wrM m z)) (Eq.symm (show nanswerS S l p y = S from by unfold nanswerS; rw [if_pos (by omega)] <;> rfl))⟩
  · refine T.aload_n dX9_answer_7 rfl ?_
    refine T.iload_n dX9_answer_8 rfl ?_
    refine T.cV1 (As := [.int (iI p)]) (st := []) dX9_answer_9 lk_X9_113 (n_isPayment E m S hS (by unfold rg; omega)) ok29 rfl rfl (by decide) rfl rfl (Nat.le_of_ble_eq_true rfl) ?_
    have n2 : (0 ≤ S 29 0 ∧ S 29 0 ≤ 8) ∧ 0 ≤ S 29 2 ∧ S 29 2 ≤ 12 := ⟨hS 29 0 rfl, hS 29 2 rfl⟩
    refine T.ifB_eq 22 dX9_answer_12 (fun c3 => ?_) (fun c3 => ?_)
    · refine T.bipush dX9_answer_22 ?_
      exact T.iret dX9_answer_24 ⟨congrArg (fun z => some (Value.int (iI z))) (Eq.symm (show nanswerR S l p y = (-101) from by unfold nanswerR; rw [if_pos (by omega)] <;> first | rfl | omega)), congrArg (fun z => hp E (wrM m z)) (Eq.symm (show nanswerS S l p y = S from by unfold nanswerS; rw [if_pos (by omega)] <;> rfl))⟩
    · refine T.iload_n dX9_answer_15 rfl ?_
      refine T.cS1 (As := [.int (iI y)]) (st := []) dX9_answer_16 lk_X9_96 (n_isDay E _ (by unfold rg; omega)) (by decide) rfl rfl (Nat.le_of_ble_eq_true rfl) ?_
      refine T.ifB_ne 25 dX9_answer_19 (fun c4 => ?_) (fun c4 => ?_)
      · refine T.aload_n dX9_answer_25 rfl ?_
        refine T.mget (v := rf E 33 0 0) dX9_answer_26 fo_X9_13 ok29 rfl rfl ?_
        refine T.iconst dX9_answer_29 ?_
        refine T.iload_n dX9_answer_30 rfl ?_
        refine T.imul dX9_answer_31 ?_
        refine T.iconst dX9_answer_32 ?_
        refine T.iadd dX9_answer_33 ?_
        refine T.aI (z := S 33 ((4 * p + 3).toNat)) (x := (4 * p + 3).toNat) dX9_answer_34 ok33 (fun _ => rfl) (by omega) (by omega) (wrM_c rfl) ?_
        have q5 : -1 ≤ S 33 ((4 * p + 3).toNat) ∧ S 33 ((4 * p + 3).toNat) ≤ 9999 := hS 33 ((4 * p + 3).toNat) rfl
        refine T.istore (ls' := [some (rf E 29 0 0), some (.int (iI l)), some (.int (iI p)), some (.int (iI y)), some (.int (iI (S 33 ((4 * p + 3).toNat)))), none, none, none, none, none, none]) dX9_answer_35 rfl ?_
        refine T.iconst dX9_answer_37 ?_
        refine T.istore (ls' := [some (rf E 29 0 0), some (.int (iI l)), some (.int (iI p)), some (.int (iI y)), some (.int (iI (S 33 ((4 * p + 3).toNat)))), some (.int (iI (-1))), none, none, none, none, none]) dX9_answer_38 rfl ?_
        refine T.ldc2 dX9_answer_40 kl_X9_107 ?_
        refine T.lstore (ls' := [some (rf E 29 0 0), some (.int (iI l)), some (.int (iI p)), some (.int (iI y)), some (.int (iI (S 33 ((4 * p + 3).toNat)))), some (.int (iI (-1))), some (.long (lI (-1))), none, none, none, none]) dX9_answer_43 rfl ?_
        refine T.iconst dX9_answer_45 ?_
        refine T.istore (ls' := [some (rf E 29 0 0), some (.int (iI l)), some (.int (iI p)), some (.int (iI y)), some (.int (iI (S 33 ((4 * p + 3).toNat)))), some (.int (iI (-1))), some (.long (lI (-1))), none, some (.int (iI (-1))), none, none]) dX9_answer_46 rfl ?_
        have n8 : 0 ≤ S 29 0 ∧ S 29 0 ≤ 8 := hS 29 0 rfl
        rw [show nanswerR S l p y = (anN l.toNat p.toNat y (S 29 0 + 1).toNat (-1) S (-1) (-1)).2 from by unfold nanswerR; rw [if_neg (by omega)], show nanswerS S l p y = upT (anN l.toNat p.toNat y (S 29 0 + 1).toNat (-1) S (-1) (-1)).1 33 (4 * p.toNat + 3) (S 33 (4 * p + 3).toNat) from by unfold nanswerS; rw [if_neg (by omega)]]
        have h0 := n_ans_lp E m l.toNat p.toNat y (S 33 (4 * p + 3).toNat) (by omega) (by omega) (by omega) (S 29 0 + 1).toNat (-1) S (-1) (-1) (by omega) hS hO (by omega) (by omega) (by omega)
        rw [show (((l).toNat : Nat) : Int) = l from by omega] at h0
        rw [show (((p).toNat : Nat) : Int) = p from by omega] at h0
        exact h0
      · refine T.bipush dX9_answer_22 ?_
        exact T.iret dX9_answer_24 ⟨congrArg (fun z => some (Value.int (iI z))) (Eq.symm (show nanswerR S l p y = (-101) from by unfold nanswerR; rw [if_pos (by omega)] <;> first | rfl | omega)), congrArg (fun z => hp E (wrM m z)) (Eq.symm (show nanswerS S l p y = S from by unfold nanswerS; rw [if_pos (by omega)] <;> rfl))⟩
set_option maxHeartbeats 4000000 in
set_option maxRecDepth 100000 in
theorem n_hang_lp (E : Ev) (m : Mem) (l p : Nat) (y t to ws : Int) (hl : l < 2) (hp12 : p < 12) (hy : 0 ≤ y ∧ y ≤ 299) (ht : 0 ≤ t ∧ t ≤ 1) (hto : 0 ≤ to ∧ to ≤ 299) : ∀ (k : Nat) (v : Int) (D : PS) (fd : Int), (to + 1 - v).toNat = k → InvS kM D → mOK D → (0 ≤ v ∧ v ≤ to + 1) → (-1 ≤ fd ∧ fd ≤ 32799920000) → T E 9 mX9_hangs 77 [some (rf E 29 0 0), some (.int (iI (l : Int))), some (.int (iI (p : Int))), none, some (.int (iI to)), some (.int (iI y)), some (.int (iI t)), some (.int (iI ws)), some (.long (lI fd)), none, some (.int (iI v)), none, none] [] (hp E (wrM m D)) (fun r' h' => r' = some (.long (lI (hgN l p y t k v D fd).2)) ∧ h' = hp E (wrM m (upT (hgN l p y t k v D fd).1 33 (4 * p) ws))) := by
  intro k
  induction k using Nat.strongRecOn with
  | ind k ih =>
    intro v D fd hk hD hDO hv hfd
    refine T.iload dX9_hangs_77 rfl ?_
    refine T.iload dX9_hangs_79 rfl ?_
    refine T.icmp_gt 149 dX9_hangs_81 (by unfold rg; omega) (by unfold rg; omega) (fun c1 => ?_) (fun c1 => ?_)
    · refine T.aload_n dX9_hangs_149 rfl ?_
      refine T.mget (v := rf E 33 0 0) dX9_hangs_150 fo_X9_13 ok29 rfl rfl ?_
      refine T.iconst dX9_hangs_153 ?_
      refine T.iload_n dX9_hangs_154 rfl ?_
      refine T.imul dX9_hangs_155 ?_
      refine T.iload dX9_hangs_156 rfl ?_
      refine T.nist (x := 4 * p) dX9_hangs_158 rfl ok33 (fun _ => rfl) (by omega) (by omega) ?_
      refine T.lload dX9_hangs_159 rfl ?_
      obtain rfl : k = 0 := by omega
      exact T.lret dX9_hangs_161 ⟨rfl, rfl⟩
    · refine T.aload_n dX9_hangs_84 rfl ?_
      refine T.mget (v := rf E 33 0 0) dX9_hangs_85 fo_X9_13 ok29 rfl rfl ?_
      refine T.iconst dX9_hangs_88 ?_
      refine T.iload_n dX9_hangs_89 rfl ?_
      refine T.imul dX9_hangs_90 ?_
      refine T.iload dX9_hangs_91 rfl ?_
      refine T.nist (x := 4 * p) dX9_hangs_93 rfl ok33 (fun _ => rfl) (by omega) (by omega) ?_
      have hX : InvS kM (upT D 33 (4 * p) v) := hD.up (by show -1 ≤ _ ∧ _ ≤ (9999 : Int); omega)
      have hXO : mOK (upT D 33 (4 * p) v) := hDO.up33 (fun p => by omega)
      have ho := owX_bd (l := l) hX hXO hy
      have hm := md_ok (l := l) hX hXO (y + 1).toNat (by omega)
      obtain ⟨kk, hk2⟩ : ∃ kk, k = kk + 1 := ⟨k - 1, by omega⟩
      refine T.aload_n dX9_hangs_94 rfl ?_
      refine T.iload_n dX9_hangs_95 rfl ?_
      refine T.iload dX9_hangs_96 rfl ?_
      refine T.cV1 (As := [.int (iI (l : Int)), .int (iI y)]) (st := []) dX9_hangs_98 lk_X9_195 (n_owedOn E m (upT D 33 (4 * p) v) l y hX hXO hl hy) ok29 rfl rfl (by decide) rfl rfl (Nat.le_of_ble_eq_true rfl) ?_
      refine T.lstore (ls' := [some (rf E 29 0 0), some (.int (iI (l : Int))), some (.int (iI (p : Int))), none, some (.int (iI to)), some (.int (iI y)), some (.int (iI t)), some (.int (iI ws)), some (.long (lI fd)), none, some (.int (iI v)), some (.long (lI (owX (upT D 33 (4 * p) v) l y))), none]) dX9_hangs_101 rfl ?_
      refine T.lload dX9_hangs_103 rfl ?_
      refine T.lconst0 dX9_hangs_105 ?_
      refine T.lcmp_lt 134 dX9_hangs_106 dX9_hangs_107 (by unfold rl; omega) (by unfold rl; omega) (fun c2 => ?_) (fun c2 => ?_)
      · refine T.lload dX9_hangs_134 rfl ?_
        refine T.goto 141 dX9_hangs_136 ?_
        refine T.lstore (ls' := [some (rf E 29 0 0), some (.int (iI (l : Int))), some (.int (iI (p : Int))), none, some (.int (iI to)), some (.int (iI y)), some (.int (iI t)), some (.int (iI ws)), some (.long (lI (owX (upT D 33 (4 * p) v) l y))), none, some (.int (iI v)), some (.long (lI (owX (upT D 33 (4 * p) v) l y))), none]) dX9_hangs_141 rfl ?_
        refine T.iinc (ls' := [some (rf E 29 0 0), some (.int (iI (l : Int))), some (.int (iI (p : Int))), none, some (.int (iI to)), some (.int (iI y)), some (.int (iI t)), some (.int (iI ws)), some (.long (lI (owX (upT D 33 (4 * p) v) l y))), none, some (.int (iI (v + 1))), some (.long (lI (owX (upT D 33 (4 * p) v) l y))), none]) dX9_hangs_143 rfl rfl ?_
        refine T.goto 77 dX9_hangs_146 ?_
        refine T.fgt (ls' := [some (rf E 29 0 0), some (.int (iI (l : Int))), some (.int (iI (p : Int))), none, some (.int (iI to)), some (.int (iI y)), some (.int (iI t)), some (.int (iI ws)), some (.long (lI (owX (upT D 33 (4 * p) v) l y))), none, some (.int (iI (v + 1))), none, none]) (by simp [lsw]) ?_
        have hq : hgN l p y t k v D fd = hgN l p y t kk (v + 1) (mdS (upT D 33 (4 * p) v) l (y + 1).toNat) (owX (upT D 33 (4 * p) v) l y) := by
          rw [hk2]
          show hgN l p y t kk (v + 1) (mdS (upT D 33 (4 * p) v) l (y + 1).toNat) (if fd < 0 ∨ (t = 0 ∧ (owX (upT D 33 (4 * p) v) l y) < fd) ∨ (t ≠ 0 ∧ fd < (owX (upT D 33 (4 * p) v) l y)) then (owX (upT D 33 (4 * p) v) l y) else fd) = _
          rw [if_pos (by omega)]
        rw [hq]
        exact ih kk (by omega) (v + 1) (mdS (upT D 33 (4 * p) v) l (y + 1).toNat) _ (by omega) hm.1 (hXO.wf hm.2.2.2) (by omega) (by omega)
      · refine T.iload dX9_hangs_110 rfl ?_
        refine T.if_ne 126 dX9_hangs_112 (by unfold rg; omega) (fun c3 => ?_) (fun c3 => ?_)
        · refine T.lload dX9_hangs_126 rfl ?_
          refine T.lload dX9_hangs_128 rfl ?_
          refine T.lcmp_le 139 dX9_hangs_130 dX9_hangs_131 (by unfold rl; omega) (by unfold rl; omega) (fun c4 => ?_) (fun c4 => ?_)
          · refine T.lload dX9_hangs_139 rfl ?_
            refine T.lstore (ls' := [some (rf E 29 0 0), some (.int (iI (l : Int))), some (.int (iI (p : Int))), none, some (.int (iI to)), some (.int (iI y)), some (.int (iI t)), some (.int (iI ws)), some (.long (lI fd)), none, some (.int (iI v)), some (.long (lI (owX (upT D 33 (4 * p) v) l y))), none]) dX9_hangs_141 rfl ?_
            refine T.iinc (ls' := [some (rf E 29 0 0), some (.int (iI (l : Int))), some (.int (iI (p : Int))), none, some (.int (iI to)), some (.int (iI y)), some (.int (iI t)), some (.int (iI ws)), some (.long (lI fd)), none, some (.int (iI (v + 1))), some (.long (lI (owX (upT D 33 (4 * p) v) l y))), none]) dX9_hangs_143 rfl rfl ?_
            refine T.goto 77 dX9_hangs_146 ?_
            refine T.fgt (ls' := [some (rf E 29 0 0), some (.int (iI (l : Int))), some (.int (iI (p : Int))), none, some (.int (iI to)), some (.int (iI y)), some (.int (iI t)), some (.int (iI ws)), some (.long (lI fd)), none, some (.int (iI (v + 1))), none, none]) (by simp [lsw]) ?_
            have hq : hgN l p y t k v D fd = hgN l p y t kk (v + 1) (mdS (upT D 33 (4 * p) v) l (y + 1).toNat) fd := by
              rw [hk2]
              show hgN l p y t kk (v + 1) (mdS (upT D 33 (4 * p) v) l (y + 1).toNat) (if fd < 0 ∨ (t = 0 ∧ (owX (upT D 33 (4 * p) v) l y) < fd) ∨ (t ≠ 0 ∧ fd < (owX (upT D 33 (4 * p) v) l y)) then (owX (upT D 33 (4 * p) v) l y) else fd) = _
              rw [if_neg (by omega)]
            rw [hq]
            exact ih kk (by omega) (v + 1) (mdS (upT D 33 (4 * p) v) l (y + 1).toNat) _ (by omega) hm.1 (hXO.wf hm.2.2.2) (by omega) (by omega)
          · refine T.lload dX9_hangs_134 rfl ?_
            refine T.goto 141 dX9_hangs_136 ?_
            refine T.lstore (ls' := [some (rf E 29 0 0), some (.int (iI (l : Int))), some (.int (iI (p : Int))), none, some (.int (iI to)), some (.int (iI y)), some (.int (iI t)), some (.int (iI ws)), some (.long (lI (owX (upT D 33 (4 * p) v) l y))), none, some (.int (iI v)), some (.long (lI (owX (upT D 33 (4 * p) v) l y))), none]) dX9_hangs_141 rfl ?_
            refine T.iinc (ls' := [some (rf E 29 0 0), some (.int (iI (l : Int))), some (.int (iI (p : Int))), none, some (.int (iI to)), some (.int (iI y)), some (.int (iI t)), some (.int (iI ws)), some (.long (lI (owX (upT D 33 (4 * p) v) l y))), none, some (.int (iI (v + 1))), some (.long (lI (owX (upT D 33 (4 * p) v) l y))), none]) dX9_hangs_143 rfl rfl ?_
            refine T.goto 77 dX9_hangs_146 ?_
            refine T.fgt (ls' := [some (rf E 29 0 0), some (.int (iI (l : Int))), some (.int (iI (p : Int))), none, some (.int (iI to)), some (.int (iI y)), some (.int (iI t)), some (.int (iI ws)), some (.long (lI (owX (upT D 33 (4 * p) v) l y))), none, some (.int (iI (v + 1))), none, none]) (by simp [lsw]) ?_
            have hq : hgN l p y t k v D fd = hgN l p y t kk (v + 1) (mdS (upT D 33 (4 * p) v) l (y + 1).toNat) (owX (upT D 33 (4 * p) v) l y) := by
              rw [hk2]
              show hgN l p y t kk (v + 1) (mdS (upT D 33 (4 * p) v) l (y + 1).toNat) (if fd < 0 ∨ (t = 0 ∧ (owX (upT D 33 (4 * p) v) l y) < fd) ∨ (t ≠ 0 ∧ fd < (owX (upT D 33 (4 * p) v) l y)) then (owX (upT D 33 (4 * p) v) l y) else fd) = _
              rw [if_pos (by omega)]
            rw [hq]
            exact ih kk (by omega) (v + 1) (mdS (upT D 33 (4 * p) v) l (y + 1).toNat) _ (by omega) hm.1 (hXO.wf hm.2.2.2) (by omega) (by omega)
        · refine T.lload dX9_hangs_115 rfl ?_
          refine T.lload dX9_hangs_117 rfl ?_
          refine T.lcmp_ge 139 dX9_hangs_119 dX9_hangs_120 (by unfold rl; omega) (by unfold rl; omega) (fun c5 => ?_) (fun c5 => ?_)
          · refine T.lload dX9_hangs_139 rfl ?_
            refine T.lstore (ls' := [some (rf E 29 0 0), some (.int (iI (l : Int))), some (.int (iI (p : Int))), none, some (.int (iI to)), some (.int (iI y)), some (.int (iI t)), some (.int (iI ws)), some (.long (lI fd)), none, some (.int (iI v)), some (.long (lI (owX (upT D 33 (4 * p) v) l y))), none]) dX9_hangs_141 rfl ?_
            refine T.iinc (ls' := [some (rf E 29 0 0), some (.int (iI (l : Int))), some (.int (iI (p : Int))), none, some (.int (iI to)), some (.int (iI y)), some (.int (iI t)), some (.int (iI ws)), some (.long (lI fd)), none, some (.int (iI (v + 1))), some (.long (lI (owX (upT D 33 (4 * p) v) l y))), none]) dX9_hangs_143 rfl rfl ?_
            refine T.goto 77 dX9_hangs_146 ?_
            refine T.fgt (ls' := [some (rf E 29 0 0), some (.int (iI (l : Int))), some (.int (iI (p : Int))), none, some (.int (iI to)), some (.int (iI y)), some (.int (iI t)), some (.int (iI ws)), some (.long (lI fd)), none, some (.int (iI (v + 1))), none, none]) (by simp [lsw]) ?_
            have hq : hgN l p y t k v D fd = hgN l p y t kk (v + 1) (mdS (upT D 33 (4 * p) v) l (y + 1).toNat) fd := by
              rw [hk2]
              show hgN l p y t kk (v + 1) (mdS (upT D 33 (4 * p) v) l (y + 1).toNat) (if fd < 0 ∨ (t = 0 ∧ (owX (upT D 33 (4 * p) v) l y) < fd) ∨ (t ≠ 0 ∧ fd < (owX (upT D 33 (4 * p) v) l y)) then (owX (upT D 33 (4 * p) v) l y) else fd) = _
              rw [if_neg (by omega)]
            rw [hq]
            exact ih kk (by omega) (v + 1) (mdS (upT D 33 (4 * p) v) l (y + 1).toNat) _ (by omega) hm.1 (hXO.wf hm.2.2.2) (by omega) (by omega)
          · refine T.goto 134 dX9_hangs_123 ?_
            refine T.lload dX9_hangs_134 rfl ?_
            refine T.goto 141 dX9_hangs_136 ?_
            refine T.lstore (ls' := [some (rf E 29 0 0), some (.int (iI (l : Int))), some (.int (iI (p : Int))), none, some (.int (iI to)), some (.int (iI y)), some (.int (iI t)), some (.int (iI ws)), some (.long (lI (owX (upT D 33 (4 * p) v) l y))), none, some (.int (iI v)), some (.long (lI (owX (upT D 33 (4 * p) v) l y))), none]) dX9_hangs_141 rfl ?_
            refine T.iinc (ls' := [some (rf E 29 0 0), some (.int (iI (l : Int))), some (.int (iI (p : Int))), none, some (.int (iI to)), some (.int (iI y)), some (.int (iI t)), some (.int (iI ws)), some (.long (lI (owX (upT D 33 (4 * p) v) l y))), none, some (.int (iI (v + 1))), some (.long (lI (owX (upT D 33 (4 * p) v) l y))), none]) dX9_hangs_143 rfl rfl ?_
            refine T.goto 77 dX9_hangs_146 ?_
            refine T.fgt (ls' := [some (rf E 29 0 0), some (.int (iI (l : Int))), some (.int (iI (p : Int))), none, some (.int (iI to)), some (.int (iI y)), some (.int (iI t)), some (.int (iI ws)), some (.long (lI (owX (upT D 33 (4 * p) v) l y))), none, some (.int (iI (v + 1))), none, none]) (by simp [lsw]) ?_
            have hq : hgN l p y t k v D fd = hgN l p y t kk (v + 1) (mdS (upT D 33 (4 * p) v) l (y + 1).toNat) (owX (upT D 33 (4 * p) v) l y) := by
              rw [hk2]
              show hgN l p y t kk (v + 1) (mdS (upT D 33 (4 * p) v) l (y + 1).toNat) (if fd < 0 ∨ (t = 0 ∧ (owX (upT D 33 (4 * p) v) l y) < fd) ∨ (t ≠ 0 ∧ fd < (owX (upT D 33 (4 * p) v) l y)) then (owX (upT D 33 (4 * p) v) l y) else fd) = _
              rw [if_pos (by omega)]
            rw [hq]
            exact ih kk (by omega) (v + 1) (mdS (upT D 33 (4 * p) v) l (y + 1).toNat) _ (by omega) hm.1 (hXO.wf hm.2.2.2) (by omega) (by omega)
noncomputable def nhangsR (S : PS) (l p fr to y t : Int) : Int := if ¬ ((0 ≤ l ∧ l ≤ 1) ∧ (0 ≤ p ∧ p ≤ S 29 2 - 1) ∧ (0 ≤ fr ∧ fr ≤ 299) ∧ (0 ≤ to ∧ to ≤ 299) ∧ fr ≤ to ∧ (0 ≤ y ∧ y ≤ 299) ∧ (0 ≤ t ∧ t ≤ 1)) then -1 else (hgN l.toNat p.toNat y t (to + 1 - fr).toNat fr S (-1)).2
noncomputable def nhangsS (S : PS) (l p fr to y t : Int) : PS := if ¬ ((0 ≤ l ∧ l ≤ 1) ∧ (0 ≤ p ∧ p ≤ S 29 2 - 1) ∧ (0 ≤ fr ∧ fr ≤ 299) ∧ (0 ≤ to ∧ to ≤ 299) ∧ fr ≤ to ∧ (0 ≤ y ∧ y ≤ 299) ∧ (0 ≤ t ∧ t ≤ 1)) then S else upT (hgN l.toNat p.toNat y t (to + 1 - fr).toNat fr S (-1)).1 33 (4 * p.toNat) (S 33 (4 * p).toNat)
set_option maxHeartbeats 4000000 in
set_option maxRecDepth 100000 in
theorem n_hangs (E : Ev) (m : Mem) (S : PS) (l p fr to y t : Int) (hS : InvS kM S) (hO : mOK S) (h1 : rg l) (h2 : rg p) (h3 : rg fr) (h4 : rg to) (h5 : rg y) (h6 : rg t) : CT E 9 mX9_hangs [rf E 29 0 0, .int (iI l), .int (iI p), .int (iI fr), .int (iI to), .int (iI y), .int (iI t)] (hp E (wrM m S)) (some (.long (lI (nhangsR S l p fr to y t)))) (hp E (wrM m (nhangsS S l p fr to y t))) := by
  refine CT.go okX9_hangs (Nat.le_of_ble_eq_true rfl) ?_
  show T E 9 mX9_hangs 0 [some (rf E 29 0 0), some (.int (iI l)), some (.int (iI p)), some (.int (iI fr)), some (.int (iI to)), some (.int (iI y)), some (.int (iI t)), none, none, none, none, none, none] [] (hp E (wrM m S)) _
  unfold rg at h1 h2 h3 h4 h5 h6
  refine T.iload_n dX9_hangs_0 rfl ?_
  refine T.cS1 (As := [.int (iI l)]) (st := []) dX9_hangs_1 lk_X9_129 (n_isLaw E _ (by unfold rg; omega)) (by decide) rfl rfl (Nat.le_of_ble_eq_true rfl) ?_
  refine T.ifB_eq 55 dX9_hangs_4 (fun c1 => ?_) (fun c1 => ?_)
  · refine T.ldc2 dX9_hangs_55 kl_X9_107 ?_
    exact T.lret dX9_hangs_58 ⟨congrArg (fun z => some (Value.long (lI z))) (Eq.symm (show nhangsR S l p fr to y t = (-1) from by unfold nhangsR; rw [if_pos (by omega)] <;> first | rfl | omega)), congrArg (fun z => hp E (wrM m z)) (Eq.symm (show nhangsS S l p fr to y t = S from by unfold nhangsS; rw [if_pos (by omega)] <;> rfl))⟩
  · refine T.aload_n dX9_hangs_7 rfl ?_
    refine T.iload_n dX9_hangs_8 rfl ?_
    refine T.cV1 (As := [.int (iI p)]) (st := []) dX9_hangs_9 lk_X9_113 (n_isPayment E m S hS (by unfold rg; omega)) ok29 rfl rfl (by decide) rfl rfl (Nat.le_of_ble_eq_true rfl) ?_
    have n2 : (0 ≤ S 29 0 ∧ S 29 0 ≤ 8) ∧ 0 ≤ S 29 2 ∧ S 29 2 ≤ 12 := ⟨hS 29 0 rfl, hS 29 2 rfl⟩
    refine T.ifB_eq 55 dX9_hangs_12 (fun c3 => ?_) (fun c3 => ?_)
    · refine T.ldc2 dX9_hangs_55 kl_X9_107 ?_
      exact T.lret dX9_hangs_58 ⟨congrArg (fun z => some (Value.long (lI z))) (Eq.symm (show nhangsR S l p fr to y t = (-1) from by unfold nhangsR; rw [if_pos (by omega)] <;> first | rfl | omega)), congrArg (fun z => hp E (wrM m z)) (Eq.symm (show nhangsS S l p fr to y t = S from by unfold nhangsS; rw [if_pos (by omega)] <;> rfl))⟩
    · refine T.iload_n dX9_hangs_15 rfl ?_
      refine T.cS1 (As := [.int (iI fr)]) (st := []) dX9_hangs_16 lk_X9_96 (n_isDay E _ (by unfold rg; omega)) (by decide) rfl rfl (Nat.le_of_ble_eq_true rfl) ?_
      refine T.ifB_eq 55 dX9_hangs_19 (fun c4 => ?_) (fun c4 => ?_)
      · refine T.ldc2 dX9_hangs_55 kl_X9_107 ?_
        exact T.lret dX9_hangs_58 ⟨congrArg (fun z => some (Value.long (lI z))) (Eq.symm (show nhangsR S l p fr to y t = (-1) from by unfold nhangsR; rw [if_pos (by omega)] <;> first | rfl | omega)), congrArg (fun z => hp E (wrM m z)) (Eq.symm (show nhangsS S l p fr to y t = S from by unfold nhangsS; rw [if_pos (by omega)] <;> rfl))⟩
      · refine T.iload dX9_hangs_22 rfl ?_
        refine T.cS1 (As := [.int (iI to)]) (st := []) dX9_hangs_24 lk_X9_96 (n_isDay E _ (by unfold rg; omega)) (by decide) rfl rfl (Nat.le_of_ble_eq_true rfl) ?_
        refine T.ifB_eq 55 dX9_hangs_27 (fun c5 => ?_) (fun c5 => ?_)
        · refine T.ldc2 dX9_hangs_55 kl_X9_107 ?_
          exact T.lret dX9_hangs_58 ⟨congrArg (fun z => some (Value.long (lI z))) (Eq.symm (show nhangsR S l p fr to y t = (-1) from by unfold nhangsR; rw [if_pos (by omega)] <;> first | rfl | omega)), congrArg (fun z => hp E (wrM m z)) (Eq.symm (show nhangsS S l p fr to y t = S from by unfold nhangsS; rw [if_pos (by omega)] <;> rfl))⟩
        · refine T.iload_n dX9_hangs_30 rfl ?_
          refine T.iload dX9_hangs_31 rfl ?_
          refine T.icmp_gt 55 dX9_hangs_33 (by unfold rg; omega) (by unfold rg; omega) (fun c6 => ?_) (fun c6 => ?_)
          · refine T.ldc2 dX9_hangs_55 kl_X9_107 ?_
            exact T.lret dX9_hangs_58 ⟨congrArg (fun z => some (Value.long (lI z))) (Eq.symm (show nhangsR S l p fr to y t = (-1) from by unfold nhangsR; rw [if_pos (by omega)] <;> first | rfl | omega)), congrArg (fun z => hp E (wrM m z)) (Eq.symm (show nhangsS S l p fr to y t = S from by unfold nhangsS; rw [if_pos (by omega)] <;> rfl))⟩
          · refine T.iload dX9_hangs_36 rfl ?_
            refine T.cS1 (As := [.int (iI y)]) (st := []) dX9_hangs_38 lk_X9_96 (n_isDay E _ (by unfold rg; omega)) (by decide) rfl rfl (Nat.le_of_ble_eq_true rfl) ?_
            refine T.ifB_eq 55 dX9_hangs_41 (fun c7 => ?_) (fun c7 => ?_)
            · refine T.ldc2 dX9_hangs_55 kl_X9_107 ?_
              exact T.lret dX9_hangs_58 ⟨congrArg (fun z => some (Value.long (lI z))) (Eq.symm (show nhangsR S l p fr to y t = (-1) from by unfold nhangsR; rw [if_pos (by omega)] <;> first | rfl | omega)), congrArg (fun z => hp E (wrM m z)) (Eq.symm (show nhangsS S l p fr to y t = S from by unfold nhangsS; rw [if_pos (by omega)] <;> rfl))⟩
            · refine T.iload dX9_hangs_44 rfl ?_
              refine T.i2l dX9_hangs_46 (by unfold rg; omega) ?_
              refine T.lconst0 dX9_hangs_47 ?_
              refine T.lconst1 dX9_hangs_48 ?_
              refine T.cS1 (As := [.long (lI t), .long (lI 0), .long (lI 1)]) (st := []) dX9_hangs_49 lk_X9_83 (n_in E _ (by unfold rl; omega) (by unfold rl; omega) (by unfold rl; omega)) (by decide) rfl rfl (Nat.le_of_ble_eq_true rfl) ?_
              refine T.ifB_ne 59 dX9_hangs_52 (fun c8 => ?_) (fun c8 => ?_)
              · refine T.aload_n dX9_hangs_59 rfl ?_
                refine T.mget (v := rf E 33 0 0) dX9_hangs_60 fo_X9_13 ok29 rfl rfl ?_
                refine T.iconst dX9_hangs_63 ?_
                refine T.iload_n dX9_hangs_64 rfl ?_
                refine T.imul dX9_hangs_65 ?_
                refine T.aI (z := S 33 ((4 * p).toNat)) (x := (4 * p).toNat) dX9_hangs_66 ok33 (fun _ => rfl) (by omega) (by omega) (wrM_c rfl) ?_
                have q9 : -1 ≤ S 33 ((4 * p).toNat) ∧ S 33 ((4 * p).toNat) ≤ 9999 := hS 33 ((4 * p).toNat) rfl
                refine T.istore (ls' := [some (rf E 29 0 0), some (.int (iI l)), some (.int (iI p)), some (.int (iI fr)), some (.int (iI to)), some (.int (iI y)), some (.int (iI t)), some (.int (iI (S 33 ((4 * p).toNat)))), none, none, none, none, none]) dX9_hangs_67 rfl ?_
                refine T.ldc2 dX9_hangs_69 kl_X9_107 ?_
                refine T.lstore (ls' := [some (rf E 29 0 0), some (.int (iI l)), some (.int (iI p)), some (.int (iI fr)), some (.int (iI to)), some (.int (iI y)), some (.int (iI t)), some (.int (iI (S 33 ((4 * p).toNat)))), some (.long (lI (-1))), none, none, none, none]) dX9_hangs_72 rfl ?_
                refine T.iload_n dX9_hangs_74 rfl ?_
                refine T.istore (ls' := [some (rf E 29 0 0), some (.int (iI l)), some (.int (iI p)), some (.int (iI fr)), some (.int (iI to)), some (.int (iI y)), some (.int (iI t)), some (.int (iI (S 33 ((4 * p).toNat)))), some (.long (lI (-1))), none, some (.int (iI fr)), none, none]) dX9_hangs_75 rfl ?_
                refine T.fgt (ls' := [some (rf E 29 0 0), some (.int (iI l)), some (.int (iI p)), none, some (.int (iI to)), some (.int (iI y)), some (.int (iI t)), some (.int (iI (S 33 ((4 * p).toNat)))), some (.long (lI (-1))), none, some (.int (iI fr)), none, none]) (by simp [lsw]) ?_
                rw [show nhangsR S l p fr to y t = (hgN l.toNat p.toNat y t (to + 1 - fr).toNat fr S (-1)).2 from by unfold nhangsR; rw [if_neg (by omega)], show nhangsS S l p fr to y t = upT (hgN l.toNat p.toNat y t (to + 1 - fr).toNat fr S (-1)).1 33 (4 * p.toNat) (S 33 (4 * p).toNat) from by unfold nhangsS; rw [if_neg (by omega)]]
                have h0 := n_hang_lp E m l.toNat p.toNat y t to (S 33 (4 * p).toNat) (by omega) (by omega) (by omega) (by omega) (by omega) (to + 1 - fr).toNat fr S (-1) rfl hS hO (by omega) (by omega)
                rw [show (((l).toNat : Nat) : Int) = l from by omega] at h0
                rw [show (((p).toNat : Nat) : Int) = p from by omega] at h0
                exact h0
              · refine T.ldc2 dX9_hangs_55 kl_X9_107 ?_
                exact T.lret dX9_hangs_58 ⟨congrArg (fun z => some (Value.long (lI z))) (Eq.symm (show nhangsR S l p fr to y t = (-1) from by unfold nhangsR; rw [if_pos (by omega)] <;> first | rfl | omega)), congrArg (fun z => hp E (wrM m z)) (Eq.symm (show nhangsS S l p fr to y t = S from by unfold nhangsS; rw [if_pos (by omega)] <;> rfl))⟩
