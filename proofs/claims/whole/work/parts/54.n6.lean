def fwA (S : PS) : Nat → PS
  | 0 => S
  | k + 1 => upT (fwA S k) 52 k (S 33 (4 * k + 2))
def fwW (b : Int) : Nat → Int → PS → PS
  | 0, _, D => D
  | k + 1, lf, D => fwW b k (lf / b) (upT D 33 (4 * k + 2) (lf % b - 1))
def fwE (D : PS) : Nat → PS
  | 0 => D
  | k + 1 => upT (fwE D k) 50 k (D 33 (4 * k + 2))
def fwF (D : PS) : Nat → PS
  | 0 => D
  | k + 1 => upT (fwF D k) 33 (4 * k + 2) (D 52 k)
noncomputable def fwG (l n : Nat) (y b r : Int) (D : PS) : PS := mdS (fwW b n r D) l (y + 1).toNat
noncomputable def fwO (l n : Nat) (y b r : Int) (D : PS) : Int := owX (fwW b n r D) l y
noncomputable def fw1 (l n : Nat) (y b r : Int) (D : PS) : PS := if fwG l n y b r D 29 21 < 0 ∨ fwO l n y b r D < fwG l n y b r D 29 21 then fwE (upT (fwG l n y b r D) 29 21 (fwO l n y b r D)) n else fwG l n y b r D
noncomputable def fwL (l n : Nat) (y b : Int) : Nat → Nat → PS → PS
  | 0, _, D => D
  | f + 1, r, D => fwL l n y b f (r + 1) (fw1 l n y b r D)
def fwB (S : PS) (n : Nat) : PS := upT (fwA S n) 29 21 (-1)
noncomputable def fwS (S : PS) (l n : Nat) (y : Int) : PS := fwF (fwL l n y (S 29 0 + 1) ((S 29 0 + 1) ^ n).toNat 0 (fwB S n)) n
theorem fwA_k {S : PS} {k : Nat} (h : k ≠ 52) : ∀ n, fwA S n k = S k
  | 0 => rfl
  | n + 1 => by
    funext x
    show upT (fwA S n) 52 _ _ k x = _
    rw [upT_k h, fwA_k h n]
theorem fwE_k {S : PS} {k : Nat} (h : k ≠ 50) : ∀ n, fwE S n k = S k
  | 0 => rfl
  | n + 1 => by
    funext x
    show upT (fwE S n) 50 _ _ k x = _
    rw [upT_k h, fwE_k h n]
theorem fwF_k {S : PS} {k : Nat} (h : k ≠ 33) : ∀ n, fwF S n k = S k
  | 0 => rfl
  | n + 1 => by
    funext x
    show upT (fwF S n) 33 _ _ k x = _
    rw [upT_k h, fwF_k h n]
theorem fwW_k {b : Int} {k : Nat} (h : k ≠ 33) : ∀ (n : Nat) (lf : Int) (D : PS), fwW b n lf D k = D k
  | 0, _, _ => rfl
  | n + 1, lf, D => by
    show fwW b n (lf / b) (upT D 33 _ _) k = _
    rw [fwW_k h n]
    funext x
    rw [upT_k h]
theorem fwW_ok {b : Int} (hb : 1 ≤ b ∧ b ≤ 9) : ∀ (n : Nat) (lf : Int) (D : PS), InvS kM D → mOK D → InvS kM (fwW b n lf D) ∧ mOK (fwW b n lf D)
  | 0, _, D, h, h2 => ⟨h, h2⟩
  | n + 1, lf, D, h, h2 => by
    have e1 := Int.emod_nonneg lf (show b ≠ 0 by omega)
    have e2 := Int.emod_lt_of_pos lf (show 0 < b by omega)
    exact fwW_ok hb n (lf / b) _ (h.up (by show -1 ≤ _ ∧ _ ≤ (9999 : Int); omega)) (h2.up33 (fun p => by omega))
theorem fwA_inv {S : PS} (hS : InvS kM S) (hO : mOK S) : ∀ n : Nat, (n : Int) ≤ S 29 2 → InvS kM (fwA S n)
  | 0, _ => hS
  | n + 1, h => (fwA_inv hS hO n (by omega)).up (by have := (hO.2 n (by omega)).2.2.1; show -1 ≤ _ ∧ _ ≤ (7 : Int); omega)
theorem fwE_inv {S : PS} (hS : InvS kM S) (hO : mOK S) : ∀ n : Nat, (n : Int) ≤ S 29 2 → InvS kM (fwE S n)
  | 0, _ => hS
  | n + 1, h => (fwE_inv hS hO n (by omega)).up (by have := (hO.2 n (by omega)).2.2.1; show -1 ≤ _ ∧ _ ≤ (7 : Int); omega)
theorem mOK.ks {S D : PS} (h : mOK S) (h31 : D 31 = S 31) (h33 : D 33 = S 33) (h0 : D 29 0 = S 29 0) (h2 : D 29 2 = S 29 2) : mOK D := by
  unfold mOK
  rw [h31, h33, h0, h2]
  exact h
/-- what holds of the model between two rows of words -/
def FW (S D : PS) (n : Nat) : Prop := InvS kM D ∧ mOK D ∧ D 29 0 = S 29 0 ∧ D 29 2 = S 29 2 ∧ -1 ≤ D 29 21 ∧ D 29 21 ≤ 32799920000
theorem fw1_ok {S D : PS} {l n : Nat} {y b r : Int} (h : FW S D n) (hb : 1 ≤ b ∧ b ≤ 9) (hy : 0 ≤ y ∧ y ≤ 299) (hn : (n : Int) ≤ S 29 2) : FW S (fw1 l n y b r D) n := by
  obtain ⟨h1, h2, h3, h4, h5, h6⟩ := h
  obtain ⟨x1, x2⟩ := fwW_ok hb n r D h1 h2
  have ho := owX_bd (l := l) x1 x2 hy
  have hm := md_ok (l := l) x1 x2 (y + 1).toNat (by omega)
  have g0 : fwG l n y b r D 29 0 = S 29 0 := by unfold fwG; rw [hm.2.2.2.2 0 (by decide), fwW_k (by decide), h3]
  have g2 : fwG l n y b r D 29 2 = S 29 2 := by unfold fwG; rw [hm.2.2.2.2 2 (by decide), fwW_k (by decide), h4]
  have g21 : fwG l n y b r D 29 21 = D 29 21 := by unfold fwG; rw [hm.2.2.2.2 21 (by decide), fwW_k (by decide)]
  have gi : InvS kM (fwG l n y b r D) := hm.1
  have gm : mOK (fwG l n y b r D) := x2.wf hm.2.2.2
  unfold fw1
  split
  · have u1 : InvS kM (upT (fwG l n y b r D) 29 21 (fwO l n y b r D)) := gi.up (by show True; trivial)
    have u2 : mOK (upT (fwG l n y b r D) 29 21 (fwO l n y b r D)) := gm.ks rfl rfl rfl rfl
    have o1 : 0 ≤ fwO l n y b r D ∧ fwO l n y b r D ≤ 32799920000 := ho
    refine ⟨fwE_inv u1 u2 n (by show (n : Int) ≤ upT _ 29 21 _ 29 2; rw [upT_x (by decide), g2]; exact hn), u2.ks (fwE_k (by decide) n) (fwE_k (by decide) n) (by rw [fwE_k (by decide)]) (by rw [fwE_k (by decide)]), ?_, ?_, ?_⟩
    · rw [fwE_k (by decide), upT_x (by decide), g0]
    · rw [fwE_k (by decide), upT_x (by decide), g2]
    · rw [fwE_k (by decide), upT_self]; omega
  · exact ⟨gi, gm, g0, g2, by rw [g21]; omega, by rw [g21]; omega⟩
theorem pow_bd {b : Int} (hb : 1 ≤ b ∧ b ≤ 9) : ∀ n : Nat, n ≤ 3 → 1 ≤ b ^ n ∧ b ^ n ≤ 729
  | 0, _ => by simp
  | 1, _ => by rw [show b ^ 1 = b by rw [Int.pow_succ, Int.pow_zero, Int.one_mul]]; omega
  | 2, _ => by
    have h1 := mul_bd (a := b) (b := b) (A := 9) (B := 9) (by omega) hb.2 (by omega) hb.2
    have h2 : 1 * 1 ≤ b * b := Int.mul_le_mul hb.1 hb.1 (by decide) (by omega)
    rw [show b ^ 2 = b * b by rw [Int.pow_succ, Int.pow_succ, Int.pow_zero, Int.one_mul]]
    omega
  | 3, _ => by
    have h1 := mul_bd (a := b) (b := b) (A := 9) (B := 9) (by omega) hb.2 (by omega) hb.2
    have h2 : 1 * 1 ≤ b * b := Int.mul_le_mul hb.1 hb.1 (by decide) (by omega)
    have h3 := mul_bd (a := b * b) (b := b) (A := 81) (B := 9) (by omega) (by omega) (by omega) hb.2
    have h4 : 1 * 1 ≤ b * b * b := Int.mul_le_mul (by omega) hb.1 (by decide) (by omega)
    rw [show b ^ 3 = b * b * b by rw [Int.pow_succ, Int.pow_succ, Int.pow_succ, Int.pow_zero, Int.one_mul]]
    omega
  | n + 4, h => by omega
set_option maxHeartbeats 4000000 in
set_option maxRecDepth 100000 in
theorem n_fw_f (E : Ev) (m : Mem) (D : PS) (l n : Nat) (y : Int) (hn : n ≤ 3) : ∀ (kk : Nat) (k : Nat) (F : PS), n - k = kk → k ≤ n → F = fwF D k → T E 9 mX9_findWords 192 [some (rf E 29 0 0), some (.int (iI (l : Int))), some (.int (iI (n : Int))), some (.int (iI y)), none, some (.int (iI (k : Int))), none, none, none, none] [] (hp E (wrM m F)) (fun r' h' => r' = none ∧ h' = hp E (wrM m (fwF D n))) := by
  intro kk
  induction kk using Nat.strongRecOn with
  | ind kk ih =>
    intro k F hk hkn hF
    refine T.iload dX9_findWords_192 rfl ?_
    refine T.iload_n dX9_findWords_194 rfl ?_
    refine T.icmp_ge 222 dX9_findWords_195 (by unfold rg; omega) (by unfold rg; omega) (fun c1 => ?_) (fun c1 => ?_)
    · obtain rfl : k = n := by omega
      exact T.vret dX9_findWords_222 ⟨rfl, by rw [hF]⟩
    · refine T.aload_n dX9_findWords_198 rfl ?_
      refine T.mget (v := rf E 33 0 0) dX9_findWords_199 fo_X9_13 ok29 rfl rfl ?_
      refine T.iconst dX9_findWords_202 ?_
      refine T.iload dX9_findWords_203 rfl ?_
      refine T.imul dX9_findWords_205 ?_
      refine T.iconst dX9_findWords_206 ?_
      refine T.iadd dX9_findWords_207 ?_
      refine T.aload_n dX9_findWords_208 rfl ?_
      refine T.mget (v := rf E 52 0 0) dX9_findWords_209 fo_X9_63 ok29 rfl rfl ?_
      refine T.iload dX9_findWords_212 rfl ?_
      refine T.aI (z := F 52 k) (x := k) dX9_findWords_214 ok52 (fun _ => rfl) rfl (by omega) (wrM_c rfl) ?_
      refine T.nist (x := (4 * k) + 2) dX9_findWords_215 rfl ok33 (fun _ => rfl) (by omega) (by omega) ?_
      refine T.iinc (ls' := [some (rf E 29 0 0), some (.int (iI (l : Int))), some (.int (iI (n : Int))), some (.int (iI y)), none, some (.int (iI ((k : Int) + 1))), none, none, none, none]) dX9_findWords_216 rfl rfl ?_
      refine T.goto 192 dX9_findWords_219 ?_
      exact ih (n - (k + 1)) (by omega) (k + 1) _ rfl (by omega) (by rw [hF]; show _ = upT (fwF D k) 33 (4 * k + 2) (D 52 k); rw [fwF_k (by decide)])
set_option maxHeartbeats 4000000 in
set_option maxRecDepth 100000 in
theorem n_fw_c (E : Ev) (m : Mem) (l n r : Nat) (y mn : Int) (Q : Option Value → Hp → Prop) : ∀ (k : Nat) (lf : Int) (D : PS), k ≤ 3 → (0 ≤ lf ∧ lf ≤ 1000) → InvS kM D → T E 9 mX9_findWords 117 [some (rf E 29 0 0), some (.int (iI (l : Int))), some (.int (iI (n : Int))), some (.int (iI y)), some (.int (iI mn)), some (.int (iI (r : Int))), none, none, none, none] [] (hp E (wrM m (fwW (D 29 0 + 1) k lf D))) Q → T E 9 mX9_findWords 73 [some (rf E 29 0 0), some (.int (iI (l : Int))), some (.int (iI (n : Int))), some (.int (iI y)), some (.int (iI mn)), some (.int (iI (r : Int))), some (.int (iI lf)), some (.int (iI ((k : Int) - 1))), none, none] [] (hp E (wrM m D)) Q := by
  intro k
  induction k using Nat.strongRecOn with
  | ind k ih =>
    intro lf D hk3 hlf hD hK
    have q0 : 0 ≤ D 29 0 ∧ D 29 0 ≤ 8 := hD 29 0 rfl
    refine T.iload dX9_findWords_73 rfl ?_
    refine T.if_lt 117 dX9_findWords_75 (by unfold rg; omega) (fun c1 => ?_) (fun c1 => ?_)
    · refine T.fgt (ls' := [some (rf E 29 0 0), some (.int (iI (l : Int))), some (.int (iI (n : Int))), some (.int (iI y)), some (.int (iI mn)), some (.int (iI (r : Int))), none, none, none, none]) (by simp [lsw]) ?_
      obtain rfl : k = 0 := by omega
      exact hK
    · refine T.aload_n dX9_findWords_78 rfl ?_
      refine T.mget (v := rf E 33 0 0) dX9_findWords_79 fo_X9_13 ok29 rfl rfl ?_
      refine T.iconst dX9_findWords_82 ?_
      refine T.iload dX9_findWords_83 rfl ?_
      refine T.imul dX9_findWords_85 ?_
      refine T.iconst dX9_findWords_86 ?_
      refine T.iadd dX9_findWords_87 ?_
      refine T.iload dX9_findWords_88 rfl ?_
      refine T.aload_n dX9_findWords_90 rfl ?_
      refine T.gI (z := D 29 0) dX9_findWords_91 fo_X9_87 ok29 rfl rfl (wrM_c rfl) ?_
      have q2 : 0 ≤ D 29 0 ∧ D 29 0 ≤ 8 := hD 29 0 rfl
      refine T.iconst dX9_findWords_94 ?_
      refine T.iadd dX9_findWords_95 ?_
      refine T.irem dX9_findWords_96 (by unfold rg; omega) (by unfold rg; omega) (by omega) (by omega) ?_
      refine T.iconst dX9_findWords_97 ?_
      refine T.isub dX9_findWords_98 ?_
      refine T.nist (x := (4 * (k - 1) + 2)) dX9_findWords_99 rfl ok33 (fun _ => rfl) (by omega) (by omega) ?_
      refine T.iload dX9_findWords_100 rfl ?_
      refine T.aload_n dX9_findWords_102 rfl ?_
      refine T.gI (z := D 29 0) dX9_findWords_103 fo_X9_87 ok29 rfl rfl ((wrM_c rfl).trans (by simp [upT])) ?_
      refine T.iconst dX9_findWords_106 ?_
      refine T.iadd dX9_findWords_107 ?_
      refine T.idiv dX9_findWords_108 (by unfold rg; omega) (by unfold rg; omega) (by omega) (by omega) ?_
      refine T.istore (ls' := [some (rf E 29 0 0), some (.int (iI (l : Int))), some (.int (iI (n : Int))), some (.int (iI y)), some (.int (iI mn)), some (.int (iI (r : Int))), some (.int (iI (lf / ((D 29 0) + 1)))), some (.int (iI ((k : Int) - 1))), none, none]) dX9_findWords_109 rfl ?_
      refine T.iinc (ls' := [some (rf E 29 0 0), some (.int (iI (l : Int))), some (.int (iI (n : Int))), some (.int (iI y)), some (.int (iI mn)), some (.int (iI (r : Int))), some (.int (iI (lf / ((D 29 0) + 1)))), some (.int (iI ((k : Int) - 1 + (-1)))), none, none]) dX9_findWords_111 rfl rfl ?_
      refine T.goto 73 dX9_findWords_114 ?_
      have e1 := Int.ediv_nonneg hlf.1 (show 0 ≤ D 29 0 + 1 by omega)
      have e2 := Int.ediv_le_self (D 29 0 + 1) hlf.1
      rw [show fwW (D 29 0 + 1) k lf D = fwW (D 29 0 + 1) (k - 1) (lf / (D 29 0 + 1)) (upT D 33 (4 * (k - 1) + 2) (lf % (D 29 0 + 1) - 1)) from by obtain ⟨j, rfl⟩ : ∃ j, k = j + 1 := ⟨k - 1, by omega⟩; rfl] at hK
      rw [show (k : Int) - 1 + (-1) = ((k - 1 : Nat) : Int) - 1 from by omega]
      exact ih (k - 1) (by omega) (lf / (D 29 0 + 1)) _ (by omega) (by omega) (hD.up (by have e3 := Int.emod_nonneg lf (show D 29 0 + 1 ≠ 0 by omega); have e4 := Int.emod_lt_of_pos lf (show 0 < D 29 0 + 1 by omega); show -1 ≤ _ ∧ _ ≤ (9999 : Int); omega)) hK
set_option maxHeartbeats 4000000 in
set_option maxRecDepth 100000 in
theorem n_fw_e (E : Ev) (m : Mem) (D : PS) (l n r : Nat) (y mn : Int) (hn : n ≤ 3) (Q : Option Value → Hp → Prop) (hK : T E 9 mX9_findWords 183 [some (rf E 29 0 0), some (.int (iI (l : Int))), some (.int (iI (n : Int))), some (.int (iI y)), some (.int (iI mn)), some (.int (iI (r : Int))), none, none, none, none] [] (hp E (wrM m (fwE D n))) Q) : ∀ (kk : Nat) (k : Nat) (F : PS), n - k = kk → k ≤ n → F = fwE D k → T E 9 mX9_findWords 153 [some (rf E 29 0 0), some (.int (iI (l : Int))), some (.int (iI (n : Int))), some (.int (iI y)), some (.int (iI mn)), some (.int (iI (r : Int))), none, none, none, some (.int (iI (k : Int)))] [] (hp E (wrM m F)) Q := by
  intro kk
  induction kk using Nat.strongRecOn with
  | ind kk ih =>
    intro k F hk hkn hF
    refine T.iload dX9_findWords_153 rfl ?_
    refine T.iload_n dX9_findWords_155 rfl ?_
    refine T.icmp_ge 183 dX9_findWords_156 (by unfold rg; omega) (by unfold rg; omega) (fun c1 => ?_) (fun c1 => ?_)
    · refine T.fgt (ls' := [some (rf E 29 0 0), some (.int (iI (l : Int))), some (.int (iI (n : Int))), some (.int (iI y)), some (.int (iI mn)), some (.int (iI (r : Int))), none, none, none, none]) (by simp [lsw]) ?_
      rw [show F = fwE D n from by rw [hF, show k = n from by omega]]
      exact hK
    · refine T.aload_n dX9_findWords_159 rfl ?_
      refine T.mget (v := rf E 50 0 0) dX9_findWords_160 fo_X9_60 ok29 rfl rfl ?_
      refine T.iload dX9_findWords_163 rfl ?_
      refine T.aload_n dX9_findWords_165 rfl ?_
      refine T.mget (v := rf E 33 0 0) dX9_findWords_166 fo_X9_13 ok29 rfl rfl ?_
      refine T.iconst dX9_findWords_169 ?_
      refine T.iload dX9_findWords_170 rfl ?_
      refine T.imul dX9_findWords_172 ?_
      refine T.iconst dX9_findWords_173 ?_
      refine T.iadd dX9_findWords_174 ?_
      refine T.aI (z := F 33 ((4 * k) + 2)) (x := (4 * k) + 2) dX9_findWords_175 ok33 (fun _ => rfl) (by omega) (by omega) (wrM_c rfl) ?_
      refine T.nist (x := k) dX9_findWords_176 rfl ok50 (fun _ => rfl) rfl (by omega) ?_
      refine T.iinc (ls' := [some (rf E 29 0 0), some (.int (iI (l : Int))), some (.int (iI (n : Int))), some (.int (iI y)), some (.int (iI mn)), some (.int (iI (r : Int))), none, none, none, some (.int (iI ((k : Int) + 1)))]) dX9_findWords_177 rfl rfl ?_
      refine T.goto 153 dX9_findWords_180 ?_
      exact ih (n - (k + 1)) (by omega) (k + 1) _ rfl (by omega) (by rw [hF]; show _ = upT (fwE D k) 50 k (D 33 (4 * k + 2)); rw [fwE_k (by decide)])
set_option maxHeartbeats 4000000 in
set_option maxRecDepth 100000 in
theorem n_fw_b (E : Ev) (m : Mem) (S : PS) (l n mn : Nat) (y b : Int) (hl : l < 2) (hn3 : n ≤ 3) (hmn : mn ≤ 729) (hy : 0 ≤ y ∧ y ≤ 299) (hb : b = S 29 0 + 1) (hb9 : 1 ≤ b ∧ b ≤ 9) (hn2 : (n : Int) ≤ S 29 2) : ∀ (k : Nat) (r : Nat) (D : PS), mn - r = k → r ≤ mn → FW S D n → T E 9 mX9_findWords 57 [some (rf E 29 0 0), some (.int (iI (l : Int))), some (.int (iI (n : Int))), some (.int (iI y)), some (.int (iI ((mn : Nat) : Int))), some (.int (iI (r : Int))), none, none, none, none] [] (hp E (wrM m D)) (fun r' h' => r' = none ∧ h' = hp E (wrM m (fwF (fwL l n y b (mn - r) r D) n))) := by
  intro k
  induction k using Nat.strongRecOn with
  | ind k ih =>
    intro r D hk hrm hF
    refine T.iload dX9_findWords_57 rfl ?_
    refine T.iload dX9_findWords_59 rfl ?_
    refine T.icmp_ge 189 dX9_findWords_61 (by unfold rg; omega) (by unfold rg; omega) (fun c1 => ?_) (fun c1 => ?_)
    · refine T.iconst dX9_findWords_189 ?_
      refine T.istore (ls' := [some (rf E 29 0 0), some (.int (iI (l : Int))), some (.int (iI (n : Int))), some (.int (iI y)), some (.int (iI ((mn : Nat) : Int))), some (.int (iI 0)), none, none, none, none]) dX9_findWords_190 rfl ?_
      refine T.fgt (ls' := [some (rf E 29 0 0), some (.int (iI (l : Int))), some (.int (iI (n : Int))), some (.int (iI y)), none, some (.int (iI 0)), none, none, none, none]) (by simp [lsw]) ?_
      rw [show mn - r = 0 from by omega]
      exact n_fw_f E m D l n y hn3 _ 0 _ rfl (Nat.zero_le _) rfl
    · refine T.iload dX9_findWords_64 rfl ?_
      refine T.istore (ls' := [some (rf E 29 0 0), some (.int (iI (l : Int))), some (.int (iI (n : Int))), some (.int (iI y)), some (.int (iI ((mn : Nat) : Int))), some (.int (iI (r : Int))), some (.int (iI (r : Int))), none, none, none]) dX9_findWords_66 rfl ?_
      refine T.iload_n dX9_findWords_68 rfl ?_
      refine T.iconst dX9_findWords_69 ?_
      refine T.isub dX9_findWords_70 ?_
      refine T.istore (ls' := [some (rf E 29 0 0), some (.int (iI (l : Int))), some (.int (iI (n : Int))), some (.int (iI y)), some (.int (iI ((mn : Nat) : Int))), some (.int (iI (r : Int))), some (.int (iI (r : Int))), some (.int (iI ((n : Int) - 1))), none, none]) dX9_findWords_71 rfl ?_
      have hfw := fw1_ok (l := l) (r := (r : Int)) hF hb9 hy hn2
      obtain ⟨f1, f2, f3, f4, f5, f6⟩ := hF
      obtain ⟨x1, x2⟩ := fwW_ok hb9 n (r : Int) D f1 f2
      have ho0 := owX_bd (l := l) x1 x2 hy
      have ho : 0 ≤ (fwO l n y b (r : Int) D) ∧ (fwO l n y b (r : Int) D) ≤ 32799920000 := ho0
      have hm := md_ok (l := l) x1 x2 (y + 1).toNat (by omega)
      have g21 : (fwG l n y b (r : Int) D) 29 21 = D 29 21 := by unfold fwG; rw [hm.2.2.2.2 21 (by decide), fwW_k (by decide)]
      have h0 := n_fw_c E m l n r y mn (fun r' h' => r' = none ∧ h' = hp E (wrM m (fwF (fwL l n y b (mn - r) r D) n))) n (r : Int) D hn3 (by omega) f1 ?_
      · exact h0
      · rw [show D 29 0 + 1 = b from by omega]
        refine T.aload_n dX9_findWords_117 rfl ?_
        refine T.iload_n dX9_findWords_118 rfl ?_
        refine T.iload_n dX9_findWords_119 rfl ?_
        refine T.cV1 (As := [.int (iI (l : Int)), .int (iI y)]) (st := []) dX9_findWords_120 lk_X9_195 (n_owedOn E m (fwW b n (r : Int) D) l y x1 x2 hl hy) ok29 rfl rfl (by decide) rfl rfl (Nat.le_of_ble_eq_true rfl) ?_
        refine T.lstore (ls' := [some (rf E 29 0 0), some (.int (iI (l : Int))), some (.int (iI (n : Int))), some (.int (iI y)), some (.int (iI ((mn : Nat) : Int))), some (.int (iI (r : Int))), none, some (.long (lI (fwO l n y b (r : Int) D))), none, none]) dX9_findWords_123 rfl ?_
        refine T.aload_n dX9_findWords_125 rfl ?_
        refine T.gL (z := (fwG l n y b (r : Int) D) 29 21) dX9_findWords_126 fo_X9_199 ok29 rfl rfl (wrM_c rfl) ?_
        refine T.lconst0 dX9_findWords_129 ?_
        refine T.lcmp_lt 144 dX9_findWords_130 dX9_findWords_131 (by unfold rl; omega) (by unfold rl; omega) (fun c1 => ?_) (fun c1 => ?_)
        · refine T.aload_n dX9_findWords_144 rfl ?_
          refine T.lload dX9_findWords_145 rfl ?_
          refine T.nputL dX9_findWords_147 fp_X9_199 rfl ok29 rfl rfl (Nat.le_of_ble_eq_true rfl) ?_
          refine T.iconst dX9_findWords_150 ?_
          refine T.istore (ls' := [some (rf E 29 0 0), some (.int (iI (l : Int))), some (.int (iI (n : Int))), some (.int (iI y)), some (.int (iI ((mn : Nat) : Int))), some (.int (iI (r : Int))), none, some (.long (lI (fwO l n y b (r : Int) D))), none, some (.int (iI 0))]) dX9_findWords_151 rfl ?_
          refine T.fgt (ls' := [some (rf E 29 0 0), some (.int (iI (l : Int))), some (.int (iI (n : Int))), some (.int (iI y)), some (.int (iI ((mn : Nat) : Int))), some (.int (iI (r : Int))), none, none, none, some (.int (iI 0))]) (by simp [lsw]) ?_
          refine n_fw_e E m (upT (fwG l n y b (r : Int) D) 29 21 (fwO l n y b (r : Int) D)) l n r y mn hn3 _ ?_ _ 0 _ rfl (Nat.zero_le _) rfl
          refine T.iinc (ls' := [some (rf E 29 0 0), some (.int (iI (l : Int))), some (.int (iI (n : Int))), some (.int (iI y)), some (.int (iI ((mn : Nat) : Int))), some (.int (iI ((r : Int) + 1))), none, none, none, none]) dX9_findWords_183 rfl rfl ?_
          refine T.goto 57 dX9_findWords_186 ?_
          have hq : fw1 l n y b (r : Int) D = (fwE (upT (fwG l n y b (r : Int) D) 29 21 (fwO l n y b (r : Int) D)) n) := if_pos (by omega)
          rw [show fwL l n y b (mn - r) r D = fwL l n y b (mn - (r + 1)) (r + 1) (fw1 l n y b (r : Int) D) from by rw [show mn - r = (mn - (r + 1)) + 1 from by omega]; rfl]
          have h0 := ih (mn - (r + 1)) (by omega) (r + 1) _ rfl (by omega) hfw
          rw [hq] at h0 ⊢
          exact h0
        · refine T.lload dX9_findWords_134 rfl ?_
          refine T.aload_n dX9_findWords_136 rfl ?_
          refine T.gL (z := (fwG l n y b (r : Int) D) 29 21) dX9_findWords_137 fo_X9_199 ok29 rfl rfl (wrM_c rfl) ?_
          refine T.lcmp_ge 183 dX9_findWords_140 dX9_findWords_141 (by unfold rl; omega) (by unfold rl; omega) (fun c2 => ?_) (fun c2 => ?_)
          · refine T.iinc (ls' := [some (rf E 29 0 0), some (.int (iI (l : Int))), some (.int (iI (n : Int))), some (.int (iI y)), some (.int (iI ((mn : Nat) : Int))), some (.int (iI ((r : Int) + 1))), none, some (.long (lI (fwO l n y b (r : Int) D))), none, none]) dX9_findWords_183 rfl rfl ?_
            refine T.goto 57 dX9_findWords_186 ?_
            refine T.fgt (ls' := [some (rf E 29 0 0), some (.int (iI (l : Int))), some (.int (iI (n : Int))), some (.int (iI y)), some (.int (iI ((mn : Nat) : Int))), some (.int (iI ((r : Int) + 1))), none, none, none, none]) (by simp [lsw]) ?_
            have hq : fw1 l n y b (r : Int) D = (fwG l n y b (r : Int) D) := if_neg (by omega)
            rw [show fwL l n y b (mn - r) r D = fwL l n y b (mn - (r + 1)) (r + 1) (fw1 l n y b (r : Int) D) from by rw [show mn - r = (mn - (r + 1)) + 1 from by omega]; rfl]
            have h0 := ih (mn - (r + 1)) (by omega) (r + 1) _ rfl (by omega) hfw
            rw [hq] at h0 ⊢
            exact h0
          · refine T.aload_n dX9_findWords_144 rfl ?_
            refine T.lload dX9_findWords_145 rfl ?_
            refine T.nputL dX9_findWords_147 fp_X9_199 rfl ok29 rfl rfl (Nat.le_of_ble_eq_true rfl) ?_
            refine T.iconst dX9_findWords_150 ?_
            refine T.istore (ls' := [some (rf E 29 0 0), some (.int (iI (l : Int))), some (.int (iI (n : Int))), some (.int (iI y)), some (.int (iI ((mn : Nat) : Int))), some (.int (iI (r : Int))), none, some (.long (lI (fwO l n y b (r : Int) D))), none, some (.int (iI 0))]) dX9_findWords_151 rfl ?_
            refine T.fgt (ls' := [some (rf E 29 0 0), some (.int (iI (l : Int))), some (.int (iI (n : Int))), some (.int (iI y)), some (.int (iI ((mn : Nat) : Int))), some (.int (iI (r : Int))), none, none, none, some (.int (iI 0))]) (by simp [lsw]) ?_
            refine n_fw_e E m (upT (fwG l n y b (r : Int) D) 29 21 (fwO l n y b (r : Int) D)) l n r y mn hn3 _ ?_ _ 0 _ rfl (Nat.zero_le _) rfl
            refine T.iinc (ls' := [some (rf E 29 0 0), some (.int (iI (l : Int))), some (.int (iI (n : Int))), some (.int (iI y)), some (.int (iI ((mn : Nat) : Int))), some (.int (iI ((r : Int) + 1))), none, none, none, none]) dX9_findWords_183 rfl rfl ?_
            refine T.goto 57 dX9_findWords_186 ?_
            have hq : fw1 l n y b (r : Int) D = (fwE (upT (fwG l n y b (r : Int) D) 29 21 (fwO l n y b (r : Int) D)) n) := if_pos (by omega)
            rw [show fwL l n y b (mn - r) r D = fwL l n y b (mn - (r + 1)) (r + 1) (fw1 l n y b (r : Int) D) from by rw [show mn - r = (mn - (r + 1)) + 1 from by omega]; rfl]
            have h0 := ih (mn - (r + 1)) (by omega) (r + 1) _ rfl (by omega) hfw
            rw [hq] at h0 ⊢
            exact h0
set_option maxHeartbeats 4000000 in
set_option maxRecDepth 100000 in
theorem n_fw_a (E : Ev) (m : Mem) (S : PS) (l n : Nat) (y : Int) (hS : InvS kM S) (hO : mOK S) (hl : l < 2) (hn1 : 1 ≤ n) (hn3 : n ≤ 3) (hy : 0 ≤ y ∧ y ≤ 299) (hn2 : (n : Int) ≤ S 29 2) : ∀ (kk : Nat) (k : Nat) (D : PS), n - k = kk → k ≤ n → D = fwA S k → T E 9 mX9_findWords 6 [some (rf E 29 0 0), some (.int (iI (l : Int))), some (.int (iI (n : Int))), some (.int (iI y)), some (.int (iI ((S 29 0 + 1) ^ k))), some (.int (iI (k : Int))), none, none, none, none] [] (hp E (wrM m D)) (fun r' h' => r' = none ∧ h' = hp E (wrM m (fwS S l n y))) := by
  have q0 : 0 ≤ S 29 0 ∧ S 29 0 ≤ 8 := hS 29 0 rfl
  intro kk
  induction kk using Nat.strongRecOn with
  | ind kk ih =>
    intro k D hk hkn hD
    have e33 : D 33 = S 33 := by rw [hD, fwA_k (by decide)]
    have e29 : D 29 = S 29 := by rw [hD, fwA_k (by decide)]
    have e290 : D 29 0 = S 29 0 := by rw [e29]
    have hDI : InvS kM D := by rw [hD]; exact fwA_inv hS hO k (by omega)
    refine T.iload dX9_findWords_6 rfl ?_
    refine T.iload_n dX9_findWords_8 rfl ?_
    refine T.icmp_ge 47 dX9_findWords_9 (by unfold rg; omega) (by unfold rg; omega) (fun c1 => ?_) (fun c1 => ?_)
    · refine T.aload_n dX9_findWords_47 rfl ?_
      refine T.ldc2 dX9_findWords_48 kl_X9_107 ?_
      refine T.nputL dX9_findWords_51 fp_X9_199 rfl ok29 rfl rfl (Nat.le_of_ble_eq_true rfl) ?_
      refine T.iconst dX9_findWords_54 ?_
      refine T.istore (ls' := [some (rf E 29 0 0), some (.int (iI (l : Int))), some (.int (iI (n : Int))), some (.int (iI y)), some (.int (iI ((S 29 0 + 1) ^ k))), some (.int (iI 0)), none, none, none, none]) dX9_findWords_55 rfl ?_
      have hkn2 : k = n := by omega
      have hpb := pow_bd (b := S 29 0 + 1) (by omega) n hn3
      have hfe : FW S (upT D 29 21 (-1)) n := ⟨hDI.up (by show True; trivial), hO.ks (by show D 31 = _; rw [hD, fwA_k (by decide)]) (by show D 33 = _; exact e33) (by rw [upT_x (by decide)]; exact e290) (by rw [upT_x (by decide), e29]), by rw [upT_x (by decide)]; exact e290, by rw [upT_x (by decide), e29], by rw [upT_self]; decide, by rw [upT_self]; decide⟩
      have h0 := n_fw_b E m S l n ((S 29 0 + 1) ^ n).toNat y (S 29 0 + 1) hl hn3 (by omega) hy rfl (by omega) hn2 _ 0 _ rfl (Nat.zero_le _) hfe
      unfold fwS fwB
      rw [hkn2] at hD ⊢
      rw [← hD]
      rw [show ((((S 29 0 + 1) ^ n).toNat : Nat) : Int) = (S 29 0 + 1) ^ n from by omega] at h0
      exact h0
    · refine T.aload_n dX9_findWords_12 rfl ?_
      refine T.mget (v := rf E 52 0 0) dX9_findWords_13 fo_X9_63 ok29 rfl rfl ?_
      refine T.iload dX9_findWords_16 rfl ?_
      refine T.aload_n dX9_findWords_18 rfl ?_
      refine T.mget (v := rf E 33 0 0) dX9_findWords_19 fo_X9_13 ok29 rfl rfl ?_
      refine T.iconst dX9_findWords_22 ?_
      refine T.iload dX9_findWords_23 rfl ?_
      refine T.imul dX9_findWords_25 ?_
      refine T.iconst dX9_findWords_26 ?_
      refine T.iadd dX9_findWords_27 ?_
      refine T.aI (z := D 33 ((4 * k) + 2)) (x := (4 * k) + 2) dX9_findWords_28 ok33 (fun _ => rfl) (by omega) (by omega) (wrM_c rfl) ?_
      have q2 : -1 ≤ D 33 ((4 * k) + 2) ∧ D 33 ((4 * k) + 2) ≤ 9999 := hDI 33 ((4 * k) + 2) rfl
      refine T.nist (x := k) dX9_findWords_29 rfl ok52 (fun _ => rfl) rfl (by omega) ?_
      refine T.iload dX9_findWords_30 rfl ?_
      refine T.aload_n dX9_findWords_32 rfl ?_
      refine T.gI (z := D 29 0) dX9_findWords_33 fo_X9_87 ok29 rfl rfl ((wrM_c rfl).trans (by simp [upT])) ?_
      have q3 : 0 ≤ D 29 0 ∧ D 29 0 ≤ 8 := hDI 29 0 rfl
      refine T.iconst dX9_findWords_36 ?_
      refine T.iadd dX9_findWords_37 ?_
      refine T.imul dX9_findWords_38 ?_
      refine T.istore (ls' := [some (rf E 29 0 0), some (.int (iI (l : Int))), some (.int (iI (n : Int))), some (.int (iI y)), some (.int (iI (((S 29 0 + 1) ^ k) * ((D 29 0) + 1)))), some (.int (iI (k : Int))), none, none, none, none]) dX9_findWords_39 rfl ?_
      refine T.iinc (ls' := [some (rf E 29 0 0), some (.int (iI (l : Int))), some (.int (iI (n : Int))), some (.int (iI y)), some (.int (iI (((S 29 0 + 1) ^ k) * ((D 29 0) + 1)))), some (.int (iI ((k : Int) + 1))), none, none, none, none]) dX9_findWords_41 rfl rfl ?_
      refine T.goto 6 dX9_findWords_44 ?_
      rw [e290, show (S 29 0 + 1) ^ k * (S 29 0 + 1) = (S 29 0 + 1) ^ (k + 1) from (Int.pow_succ _ _).symm]
      exact ih (n - (k + 1)) (by omega) (k + 1) _ rfl (by omega) (by rw [e33, hD]; rfl)
set_option maxHeartbeats 4000000 in
set_option maxRecDepth 100000 in
theorem n_findWords (E : Ev) (m : Mem) (S : PS) (l n : Nat) (y : Int) (hS : InvS kM S) (hO : mOK S) (hl : l < 2) (hn1 : 1 ≤ n) (hn3 : n ≤ 3) (hy : 0 ≤ y ∧ y ≤ 299) (hn2 : (n : Int) ≤ S 29 2) : CT E 9 mX9_findWords [rf E 29 0 0, .int (iI (l : Int)), .int (iI (n : Int)), .int (iI y)] (hp E (wrM m S)) (none) (hp E (wrM m (fwS S l n y))) := by
  refine CT.go okX9_findWords (Nat.le_of_ble_eq_true rfl) ?_
  show T E 9 mX9_findWords 0 [some (rf E 29 0 0), some (.int (iI (l : Int))), some (.int (iI (n : Int))), some (.int (iI y)), none, none, none, none, none, none] [] (hp E (wrM m S)) _
  refine T.iconst dX9_findWords_0 ?_
  refine T.istore (ls' := [some (rf E 29 0 0), some (.int (iI (l : Int))), some (.int (iI (n : Int))), some (.int (iI y)), some (.int (iI 1)), none, none, none, none, none]) dX9_findWords_1 rfl ?_
  refine T.iconst dX9_findWords_3 ?_
  refine T.istore (ls' := [some (rf E 29 0 0), some (.int (iI (l : Int))), some (.int (iI (n : Int))), some (.int (iI y)), some (.int (iI 1)), some (.int (iI 0)), none, none, none, none]) dX9_findWords_4 rfl ?_
  have h0 := n_fw_a E m S l n y hS hO hl hn1 hn3 hy hn2 _ 0 _ rfl (Nat.zero_le _) rfl
  rw [Int.pow_zero] at h0
  exact h0
noncomputable def nbestR (S : PS) (l n y i : Int) : Int := if ¬ ((0 ≤ l ∧ l ≤ 1) ∧ (1 ≤ n ∧ n ≤ 3) ∧ (0 ≤ y ∧ y ≤ 299) ∧ (0 ≤ i ∧ i ≤ n - 1)) then -101 else if S 29 2 < n then -102 else (fwS S l.toNat n.toNat y) 50 i.toNat
noncomputable def nbestS (S : PS) (l n y i : Int) : PS := if ¬ ((0 ≤ l ∧ l ≤ 1) ∧ (1 ≤ n ∧ n ≤ 3) ∧ (0 ≤ y ∧ y ≤ 299) ∧ (0 ≤ i ∧ i ≤ n - 1)) then S else if S 29 2 < n then S else (fwS S l.toNat n.toNat y)
set_option maxHeartbeats 4000000 in
set_option maxRecDepth 100000 in
theorem n_best (E : Ev) (m : Mem) (S : PS) (l n y i : Int) (hS : InvS kM S) (hO : mOK S) (h1 : rg l) (h2 : rg n) (h3 : rg y) (h4 : rg i) : CT E 10 mX9_best [rf E 29 0 0, .int (iI l), .int (iI n), .int (iI y), .int (iI i)] (hp E (wrM m S)) (some (.int (iI (nbestR S l n y i)))) (hp E (wrM m (nbestS S l n y i))) := by
  refine CT.go okX9_best (Nat.le_of_ble_eq_true rfl) ?_
  show T E 10 mX9_best 0 [some (rf E 29 0 0), some (.int (iI l)), some (.int (iI n)), some (.int (iI y)), some (.int (iI i))] [] (hp E (wrM m S)) _
  unfold rg at h1 h2 h3 h4
  refine T.iload_n dX9_best_0 rfl ?_
  refine T.cS1 (As := [.int (iI l)]) (st := []) dX9_best_1 lk_X9_129 (n_isLaw E _ (by unfold rg; omega)) (by decide) rfl rfl (Nat.le_of_ble_eq_true rfl) ?_
  refine T.ifB_eq 40 dX9_best_4 (fun c1 => ?_) (fun c1 => ?_)
  · refine T.bipush dX9_best_40 ?_
    exact T.iret dX9_best_42 ⟨congrArg (fun z => some (Value.int (iI z))) (Eq.symm (show nbestR S l n y i = (-101) from by unfold nbestR; rw [if_pos (by omega)] <;> first | rfl | omega)), congrArg (fun z => hp E (wrM m z)) (Eq.symm (show nbestS S l n y i = S from by unfold nbestS; rw [if_pos (by omega)] <;> rfl))⟩
  · refine T.iload_n dX9_best_7 rfl ?_
    refine T.i2l dX9_best_8 (by unfold rg; omega) ?_
    refine T.lconst1 dX9_best_9 ?_
    refine T.ldc2 dX9_best_10 kl_X9_116 ?_
    refine T.cS1 (As := [.long (lI n), .long (lI 1), .long (lI 3)]) (st := []) dX9_best_13 lk_X9_83 (n_in E _ (by unfold rl; omega) (by unfold rl; omega) (by unfold rl; omega)) (by decide) rfl rfl (Nat.le_of_ble_eq_true rfl) ?_
    refine T.ifB_eq 40 dX9_best_16 (fun c2 => ?_) (fun c2 => ?_)
    · refine T.bipush dX9_best_40 ?_
      exact T.iret dX9_best_42 ⟨congrArg (fun z => some (Value.int (iI z))) (Eq.symm (show nbestR S l n y i = (-101) from by unfold nbestR; rw [if_pos (by omega)] <;> first | rfl | omega)), congrArg (fun z => hp E (wrM m z)) (Eq.symm (show nbestS S l n y i = S from by unfold nbestS; rw [if_pos (by omega)] <;> rfl))⟩
    · refine T.iload_n dX9_best_19 rfl ?_
      refine T.cS1 (As := [.int (iI y)]) (st := []) dX9_best_20 lk_X9_96 (n_isDay E _ (by unfold rg; omega)) (by decide) rfl rfl (Nat.le_of_ble_eq_true rfl) ?_
      refine T.ifB_eq 40 dX9_best_23 (fun c3 => ?_) (fun c3 => ?_)
      · refine T.bipush dX9_best_40 ?_
        exact T.iret dX9_best_42 ⟨congrArg (fun z => some (Value.int (iI z))) (Eq.symm (show nbestR S l n y i = (-101) from by unfold nbestR; rw [if_pos (by omega)] <;> first | rfl | omega)), congrArg (fun z => hp E (wrM m z)) (Eq.symm (show nbestS S l n y i = S from by unfold nbestS; rw [if_pos (by omega)] <;> rfl))⟩
      · refine T.iload dX9_best_26 rfl ?_
        refine T.i2l dX9_best_28 (by unfold rg; omega) ?_
        refine T.lconst0 dX9_best_29 ?_
        refine T.iload_n dX9_best_30 rfl ?_
        refine T.iconst dX9_best_31 ?_
        refine T.isub dX9_best_32 ?_
        refine T.i2l dX9_best_33 (by unfold rg; omega) ?_
        refine T.cS1 (As := [.long (lI i), .long (lI 0), .long (lI (n - 1))]) (st := []) dX9_best_34 lk_X9_83 (n_in E _ (by unfold rl; omega) (by unfold rl; omega) (by unfold rl; omega)) (by decide) rfl rfl (Nat.le_of_ble_eq_true rfl) ?_
        refine T.ifB_ne 43 dX9_best_37 (fun c4 => ?_) (fun c4 => ?_)
        · refine T.aload_n dX9_best_43 rfl ?_
          refine T.gI (z := S 29 2) dX9_best_44 fo_X9_91 ok29 rfl rfl (wrM_c rfl) ?_
          have q5 : 0 ≤ S 29 2 ∧ S 29 2 ≤ 12 := hS 29 2 rfl
          refine T.iload_n dX9_best_47 rfl ?_
          refine T.icmp_ge 54 dX9_best_48 (by unfold rg; omega) (by unfold rg; omega) (fun c6 => ?_) (fun c6 => ?_)
          · refine T.aload_n dX9_best_54 rfl ?_
            refine T.iload_n dX9_best_55 rfl ?_
            refine T.iload_n dX9_best_56 rfl ?_
            refine T.iload_n dX9_best_57 rfl ?_
            refine T.cV0 (As := [.int (iI l), .int (iI n), .int (iI y)]) (st := []) dX9_best_58 lk_X9_202 (by have h0 := n_findWords E m S l.toNat n.toNat y hS hO (by omega) (by omega) (by omega) (by omega) (by omega); rw [show ((l.toNat : Nat) : Int) = l from by omega, show ((n.toNat : Nat) : Int) = n from by omega] at h0; exact h0) ok29 rfl rfl (by decide) rfl rfl (Nat.le_of_ble_eq_true rfl) ?_
            refine T.aload_n dX9_best_61 rfl ?_
            refine T.mget (v := rf E 50 0 0) dX9_best_62 fo_X9_60 ok29 rfl rfl ?_
            refine T.iload dX9_best_65 rfl ?_
            refine T.aI (z := (fwS S l.toNat n.toNat y) 50 i.toNat) (x := i.toNat) dX9_best_67 ok50 (fun _ => rfl) (by omega) (by omega) (wrM_c rfl) ?_
            exact T.iret dX9_best_68 ⟨congrArg (fun z => some (Value.int (iI z))) (Eq.symm (show nbestR S l n y i = (fwS S l.toNat n.toNat y) 50 i.toNat from by unfold nbestR; rw [if_neg (by omega), if_neg (by omega)] <;> first | rfl | omega)), congrArg (fun z => hp E (wrM m z)) (Eq.symm (show nbestS S l n y i = (fwS S l.toNat n.toNat y) from by unfold nbestS; rw [if_neg (by omega), if_neg (by omega)] <;> rfl))⟩
          · refine T.bipush dX9_best_51 ?_
            exact T.iret dX9_best_53 ⟨congrArg (fun z => some (Value.int (iI z))) (Eq.symm (show nbestR S l n y i = (-102) from by unfold nbestR; rw [if_neg (by omega), if_pos (by omega)] <;> first | rfl | omega)), congrArg (fun z => hp E (wrM m z)) (Eq.symm (show nbestS S l n y i = S from by unfold nbestS; rw [if_neg (by omega), if_pos (by omega)] <;> rfl))⟩
        · refine T.bipush dX9_best_40 ?_
          exact T.iret dX9_best_42 ⟨congrArg (fun z => some (Value.int (iI z))) (Eq.symm (show nbestR S l n y i = (-101) from by unfold nbestR; rw [if_pos (by omega)] <;> first | rfl | omega)), congrArg (fun z => hp E (wrM m z)) (Eq.symm (show nbestS S l n y i = S from by unfold nbestS; rw [if_pos (by omega)] <;> rfl))⟩
noncomputable def nleastR (S : PS) (l n y : Int) : Int := if ¬ ((0 ≤ l ∧ l ≤ 1) ∧ (1 ≤ n ∧ n ≤ 3) ∧ (0 ≤ y ∧ y ≤ 299)) then -1 else if S 29 2 < n then -2 else (fwS S l.toNat n.toNat y) 29 21
noncomputable def nleastS (S : PS) (l n y : Int) : PS := if ¬ ((0 ≤ l ∧ l ≤ 1) ∧ (1 ≤ n ∧ n ≤ 3) ∧ (0 ≤ y ∧ y ≤ 299)) then S else if S 29 2 < n then S else (fwS S l.toNat n.toNat y)
set_option maxHeartbeats 4000000 in
set_option maxRecDepth 100000 in
theorem n_least (E : Ev) (m : Mem) (S : PS) (l n y : Int) (hS : InvS kM S) (hO : mOK S) (h1 : rg l) (h2 : rg n) (h3 : rg y) : CT E 10 mX9_least [rf E 29 0 0, .int (iI l), .int (iI n), .int (iI y)] (hp E (wrM m S)) (some (.long (lI (nleastR S l n y)))) (hp E (wrM m (nleastS S l n y))) := by
  refine CT.go okX9_least (Nat.le_of_ble_eq_true rfl) ?_
  show T E 10 mX9_least 0 [some (rf E 29 0 0), some (.int (iI l)), some (.int (iI n)), some (.int (iI y))] [] (hp E (wrM m S)) _
  unfold rg at h1 h2 h3
  refine T.iload_n dX9_least_0 rfl ?_
  refine T.cS1 (As := [.int (iI l)]) (st := []) dX9_least_1 lk_X9_129 (n_isLaw E _ (by unfold rg; omega)) (by decide) rfl rfl (Nat.le_of_ble_eq_true rfl) ?_
  refine T.ifB_eq 26 dX9_least_4 (fun c1 => ?_) (fun c1 => ?_)
  · refine T.ldc2 dX9_least_26 kl_X9_107 ?_
    exact T.lret dX9_least_29 ⟨congrArg (fun z => some (Value.long (lI z))) (Eq.symm (show nleastR S l n y = (-1) from by unfold nleastR; rw [if_pos (by omega)] <;> first | rfl | omega)), congrArg (fun z => hp E (wrM m z)) (Eq.symm (show nleastS S l n y = S from by unfold nleastS; rw [if_pos (by omega)] <;> rfl))⟩
  · refine T.iload_n dX9_least_7 rfl ?_
    refine T.i2l dX9_least_8 (by unfold rg; omega) ?_
    refine T.lconst1 dX9_least_9 ?_
    refine T.ldc2 dX9_least_10 kl_X9_116 ?_
    refine T.cS1 (As := [.long (lI n), .long (lI 1), .long (lI 3)]) (st := []) dX9_least_13 lk_X9_83 (n_in E _ (by unfold rl; omega) (by unfold rl; omega) (by unfold rl; omega)) (by decide) rfl rfl (Nat.le_of_ble_eq_true rfl) ?_
    refine T.ifB_eq 26 dX9_least_16 (fun c2 => ?_) (fun c2 => ?_)
    · refine T.ldc2 dX9_least_26 kl_X9_107 ?_
      exact T.lret dX9_least_29 ⟨congrArg (fun z => some (Value.long (lI z))) (Eq.symm (show nleastR S l n y = (-1) from by unfold nleastR; rw [if_pos (by omega)] <;> first | rfl | omega)), congrArg (fun z => hp E (wrM m z)) (Eq.symm (show nleastS S l n y = S from by unfold nleastS; rw [if_pos (by omega)] <;> rfl))⟩
    · refine T.iload_n dX9_least_19 rfl ?_
      refine T.cS1 (As := [.int (iI y)]) (st := []) dX9_least_20 lk_X9_96 (n_isDay E _ (by unfold rg; omega)) (by decide) rfl rfl (Nat.le_of_ble_eq_true rfl) ?_
      refine T.ifB_ne 30 dX9_least_23 (fun c3 => ?_) (fun c3 => ?_)
      · refine T.aload_n dX9_least_30 rfl ?_
        refine T.gI (z := S 29 2) dX9_least_31 fo_X9_91 ok29 rfl rfl (wrM_c rfl) ?_
        have q4 : 0 ≤ S 29 2 ∧ S 29 2 ≤ 12 := hS 29 2 rfl
        refine T.iload_n dX9_least_34 rfl ?_
        refine T.icmp_ge 42 dX9_least_35 (by unfold rg; omega) (by unfold rg; omega) (fun c5 => ?_) (fun c5 => ?_)
        · refine T.aload_n dX9_least_42 rfl ?_
          refine T.iload_n dX9_least_43 rfl ?_
          refine T.iload_n dX9_least_44 rfl ?_
          refine T.iload_n dX9_least_45 rfl ?_
          refine T.cV0 (As := [.int (iI l), .int (iI n), .int (iI y)]) (st := []) dX9_least_46 lk_X9_202 (by have h0 := n_findWords E m S l.toNat n.toNat y hS hO (by omega) (by omega) (by omega) (by omega) (by omega); rw [show ((l.toNat : Nat) : Int) = l from by omega, show ((n.toNat : Nat) : Int) = n from by omega] at h0; exact h0) ok29 rfl rfl (by decide) rfl rfl (Nat.le_of_ble_eq_true rfl) ?_
          refine T.aload_n dX9_least_49 rfl ?_
          refine T.gL (z := (fwS S l.toNat n.toNat y) 29 21) dX9_least_50 fo_X9_199 ok29 rfl rfl (wrM_c rfl) ?_
          exact T.lret dX9_least_53 ⟨congrArg (fun z => some (Value.long (lI z))) (Eq.symm (show nleastR S l n y = (fwS S l.toNat n.toNat y) 29 21 from by unfold nleastR; rw [if_neg (by omega), if_neg (by omega)] <;> first | rfl | omega)), congrArg (fun z => hp E (wrM m z)) (Eq.symm (show nleastS S l n y = (fwS S l.toNat n.toNat y) from by unfold nleastS; rw [if_neg (by omega), if_neg (by omega)] <;> rfl))⟩
        · refine T.ldc2 dX9_least_38 kl_X9_205 ?_
          exact T.lret dX9_least_41 ⟨congrArg (fun z => some (Value.long (lI z))) (Eq.symm (show nleastR S l n y = (-2) from by unfold nleastR; rw [if_neg (by omega), if_pos (by omega)] <;> first | rfl | omega)), congrArg (fun z => hp E (wrM m z)) (Eq.symm (show nleastS S l n y = S from by unfold nleastS; rw [if_neg (by omega), if_pos (by omega)] <;> rfl))⟩
      · refine T.ldc2 dX9_least_26 kl_X9_107 ?_
        exact T.lret dX9_least_29 ⟨congrArg (fun z => some (Value.long (lI z))) (Eq.symm (show nleastR S l n y = (-1) from by unfold nleastR; rw [if_pos (by omega)] <;> first | rfl | omega)), congrArg (fun z => hp E (wrM m z)) (Eq.symm (show nleastS S l n y = S from by unfold nleastS; rw [if_pos (by omega)] <;> rfl))⟩
