abbrev gdR (rd : Nat → Int) (b : Int) (n : Nat) : Prop := (isLt b ∧ n < 12) ∧ hmL rd b n = false
def lwF (tp : Nat → Int) : Nat → Nat → Nat → Int → (Nat → Int) → Nat × Int × (Nat → Int)
  | 0, _, n, wr, rd => (n, wr, rd)
  | f + 1, i, n, wr, rd => if 0 ≤ wr then (n, wr, rd) else if gdR rd (tp i) n then lwF tp f (i + 1) (n + 1) wr (upd1 rd n (tp i)) else if tp i = 32 then lwF tp f (i + 1) n wr rd else lwF tp f (i + 1) n i rd
def lcL (D : PS) (l : Nat) : Nat → PS
  | 0 => D
  | k + 1 => upT (lcL D l k) 36 (12 * l + k) (D 38 k)
def lwE (D : PS) (n : Nat) (wr : Int) : Int := if wr < 0 ∧ n = 0 then D 29 5 else wr
def lwR (D : PS) (n : Nat) (wr : Int) : Int := if 0 ≤ lwE D n wr then -20 - lwE D n wr else n
def lwS (D : PS) (l n : Nat) (wr : Int) : PS := if 0 ≤ lwE D n wr then upT D 29 5 0 else upT (lcL (upT D 29 5 0) l n) 37 l n
theorem lcL_k {D : PS} {l k : Nat} (h : k ≠ 36) : ∀ n, lcL D l n k = D k
  | 0 => rfl
  | n + 1 => by
    funext x
    show upT (lcL D l n) 36 _ _ k x = _
    rw [upT_k h, lcL_k h n]
set_option maxHeartbeats 4000000 in
set_option maxRecDepth 100000 in
theorem n_law_c (E : Ev) (m : Mem) (D : PS) (l n : Nat) (hl : l < 2) (hn : n ≤ 12) : ∀ (kk : Nat) (k : Nat) (F : PS), n - k = kk → k ≤ n → F = lcL D l k → T E 3 mX9_law 178 [some (rf E 29 0 0), some (.int (iI (l : Int))), some (.int (iI (n : Int))), none, some (.int (iI (k : Int))), none, none] [] (hp E (wrM m F)) (fun r' h' => r' = some (.int (iI (n : Int))) ∧ h' = hp E (wrM m (upT (lcL D l n) 37 l (n : Int)))) := by
  intro kk
  induction kk using Nat.strongRecOn with
  | ind kk ih =>
    intro k F hk hkn hF
    refine T.iload dX9_law_178 rfl ?_
    refine T.iload_n dX9_law_180 rfl ?_
    refine T.icmp_ge 209 dX9_law_181 (by unfold rg; omega) (by unfold rg; omega) (fun c1 => ?_) (fun c1 => ?_)
    · refine T.aload_n dX9_law_209 rfl ?_
      refine T.mget (v := rf E 37 0 0) dX9_law_210 fo_X9_22 ok29 rfl rfl ?_
      refine T.iload_n dX9_law_213 rfl ?_
      refine T.iload_n dX9_law_214 rfl ?_
      refine T.nist (x := l) dX9_law_215 rfl ok37 (fun _ => rfl) rfl (by omega) ?_
      refine T.iload_n dX9_law_216 rfl ?_
      obtain rfl : k = n := by omega
      exact T.iret dX9_law_217 ⟨rfl, by rw [hF]⟩
    · refine T.aload_n dX9_law_184 rfl ?_
      refine T.mget (v := rf E 36 0 0) dX9_law_185 fo_X9_19 ok29 rfl rfl ?_
      refine T.bipush dX9_law_188 ?_
      refine T.iload_n dX9_law_190 rfl ?_
      refine T.imul dX9_law_191 ?_
      refine T.iload dX9_law_192 rfl ?_
      refine T.iadd dX9_law_194 ?_
      refine T.aload_n dX9_law_195 rfl ?_
      refine T.mget (v := rf E 38 0 0) dX9_law_196 fo_X9_25 ok29 rfl rfl ?_
      refine T.iload dX9_law_199 rfl ?_
      refine T.aI (z := F 38 k) (x := k) dX9_law_201 ok38 (fun _ => rfl) rfl (by omega) (wrM_c rfl) ?_
      refine T.nist (x := (12 * l + k)) dX9_law_202 rfl ok36 (fun _ => rfl) (by omega) (by omega) ?_
      refine T.iinc (ls' := [some (rf E 29 0 0), some (.int (iI (l : Int))), some (.int (iI (n : Int))), none, some (.int (iI ((k : Int) + 1))), none, none]) dX9_law_203 rfl rfl ?_
      refine T.goto 178 dX9_law_206 ?_
      exact ih (n - (k + 1)) (by omega) (k + 1) _ rfl (by omega) (by rw [hF]; show _ = upT (lcL D l k) 36 (12 * l + k) (D 38 k); rw [lcL_k (by decide)])
set_option maxHeartbeats 4000000 in
set_option maxRecDepth 100000 in
theorem n_law_144 (E : Ev) (m : Mem) (D : PS) (l n : Nat) (wr : Int) (hD : InvS kM D) (hl : l < 2) (hn : n ≤ 12) (hw : -1 ≤ wr ∧ wr ≤ 40) : T E 3 mX9_law 144 [some (rf E 29 0 0), some (.int (iI (l : Int))), some (.int (iI (n : Int))), some (.int (iI wr)), none, none, none] [] (hp E (wrM m D)) (fun r' h' => r' = some (.int (iI (lwR D n wr))) ∧ h' = hp E (wrM m (lwS D l n wr))) := by
  have q5 : 0 ≤ D 29 5 ∧ D 29 5 ≤ 40 := hD 29 5 rfl
  refine T.iload_n dX9_law_144 rfl ?_
  refine T.if_ge 159 dX9_law_145 (by unfold rg; omega) (fun c1 => ?_) (fun c1 => ?_)
  · refine T.iload_n dX9_law_159 rfl ?_
    refine T.istore_n (ls' := [some (rf E 29 0 0), some (.int (iI (l : Int))), some (.int (iI (n : Int))), some (.int (iI wr)), none, none, none]) dX9_law_160 rfl ?_
    refine T.aload_n dX9_law_161 rfl ?_
    refine T.iconst dX9_law_162 ?_
    refine T.nputI dX9_law_163 fp_X9_126 rfl ok29 rfl rfl (Nat.le_of_ble_eq_true rfl) ?_
    refine T.iload_n dX9_law_166 rfl ?_
    refine T.if_lt 175 dX9_law_167 (by unfold rg; omega) (fun c2 => ?_) (fun c2 => ?_)
    · refine T.iconst dX9_law_175 ?_
      refine T.istore (ls' := [some (rf E 29 0 0), some (.int (iI (l : Int))), some (.int (iI (n : Int))), some (.int (iI wr)), some (.int (iI 0)), none, none]) dX9_law_176 rfl ?_
      refine T.fgt (ls' := [some (rf E 29 0 0), some (.int (iI (l : Int))), some (.int (iI (n : Int))), none, some (.int (iI 0)), none, none]) (by simp [lsw]) ?_
      have he : lwE D n wr = wr := by unfold lwE; split <;> omega
      have h0 := n_law_c E m (upT D 29 5 0) l n hl hn _ 0 _ rfl (Nat.zero_le _) rfl
      unfold lwR lwS
      rw [he, if_neg (by omega), if_neg (by omega)]
      exact h0
    · refine T.bipush dX9_law_170 ?_
      refine T.iload_n dX9_law_172 rfl ?_
      refine T.isub dX9_law_173 ?_
      have he : lwE D n wr = wr := by unfold lwE; split <;> omega
      exact T.iret dX9_law_174 ⟨by unfold lwR; rw [he, if_pos (by omega)], by unfold lwS; rw [he, if_pos (by omega)]⟩
  · refine T.iload_n dX9_law_148 rfl ?_
    refine T.if_ne 159 dX9_law_149 (by unfold rg; omega) (fun c3 => ?_) (fun c3 => ?_)
    · refine T.iload_n dX9_law_159 rfl ?_
      refine T.istore_n (ls' := [some (rf E 29 0 0), some (.int (iI (l : Int))), some (.int (iI (n : Int))), some (.int (iI wr)), none, none, none]) dX9_law_160 rfl ?_
      refine T.aload_n dX9_law_161 rfl ?_
      refine T.iconst dX9_law_162 ?_
      refine T.nputI dX9_law_163 fp_X9_126 rfl ok29 rfl rfl (Nat.le_of_ble_eq_true rfl) ?_
      refine T.iload_n dX9_law_166 rfl ?_
      refine T.if_lt 175 dX9_law_167 (by unfold rg; omega) (fun c4 => ?_) (fun c4 => ?_)
      · refine T.iconst dX9_law_175 ?_
        refine T.istore (ls' := [some (rf E 29 0 0), some (.int (iI (l : Int))), some (.int (iI (n : Int))), some (.int (iI wr)), some (.int (iI 0)), none, none]) dX9_law_176 rfl ?_
        refine T.fgt (ls' := [some (rf E 29 0 0), some (.int (iI (l : Int))), some (.int (iI (n : Int))), none, some (.int (iI 0)), none, none]) (by simp [lsw]) ?_
        have he : lwE D n wr = wr := by unfold lwE; split <;> omega
        have h0 := n_law_c E m (upT D 29 5 0) l n hl hn _ 0 _ rfl (Nat.zero_le _) rfl
        unfold lwR lwS
        rw [he, if_neg (by omega), if_neg (by omega)]
        exact h0
      · refine T.bipush dX9_law_170 ?_
        refine T.iload_n dX9_law_172 rfl ?_
        refine T.isub dX9_law_173 ?_
        have he : lwE D n wr = wr := by unfold lwE; split <;> omega
        exact T.iret dX9_law_174 ⟨by unfold lwR; rw [he, if_pos (by omega)], by unfold lwS; rw [he, if_pos (by omega)]⟩
    · refine T.aload_n dX9_law_152 rfl ?_
      refine T.gI (z := D 29 5) dX9_law_153 fo_X9_126 ok29 rfl rfl (wrM_c rfl) ?_
      have q5 : 0 ≤ D 29 5 ∧ D 29 5 ≤ 40 := hD 29 5 rfl
      refine T.goto 160 dX9_law_156 ?_
      refine T.istore_n (ls' := [some (rf E 29 0 0), some (.int (iI (l : Int))), some (.int (iI (n : Int))), some (.int (iI (D 29 5))), none, none, none]) dX9_law_160 rfl ?_
      refine T.aload_n dX9_law_161 rfl ?_
      refine T.iconst dX9_law_162 ?_
      refine T.nputI dX9_law_163 fp_X9_126 rfl ok29 rfl rfl (Nat.le_of_ble_eq_true rfl) ?_
      refine T.iload_n dX9_law_166 rfl ?_
      refine T.if_lt 175 dX9_law_167 (by unfold rg; omega) (fun c6 => ?_) (fun c6 => ?_)
      · refine T.iconst dX9_law_175 ?_
        refine T.istore (ls' := [some (rf E 29 0 0), some (.int (iI (l : Int))), some (.int (iI (n : Int))), some (.int (iI (D 29 5))), some (.int (iI 0)), none, none]) dX9_law_176 rfl ?_
        refine T.fgt (ls' := [some (rf E 29 0 0), some (.int (iI (l : Int))), some (.int (iI (n : Int))), none, some (.int (iI 0)), none, none]) (by simp [lsw]) ?_
        have he : lwE D n wr = D 29 5 := by unfold lwE; split <;> omega
        have h0 := n_law_c E m (upT D 29 5 0) l n hl hn _ 0 _ rfl (Nat.zero_le _) rfl
        unfold lwR lwS
        rw [he, if_neg (by omega), if_neg (by omega)]
        exact h0
      · refine T.bipush dX9_law_170 ?_
        refine T.iload_n dX9_law_172 rfl ?_
        refine T.isub dX9_law_173 ?_
        have he : lwE D n wr = D 29 5 := by unfold lwE; split <;> omega
        exact T.iret dX9_law_174 ⟨by unfold lwR; rw [he, if_pos (by omega)], by unfold lwS; rw [he, if_pos (by omega)]⟩
set_option maxHeartbeats 4000000 in
set_option maxRecDepth 100000 in
theorem n_law_in (E : Ev) (m : Mem) (D : PS) (l n i : Nat) (wr : Int) (g0 : Prop) (hD : InvS kM D) (hn : n ≤ 12) (hi : i < 40) (Q : Option Value → Hp → Prop) (hK : T E 3 mX9_law 99 [some (rf E 29 0 0), some (.int (iI (l : Int))), some (.int (iI (n : Int))), some (.int (iI wr)), some (.int (iI (i : Int))), some (.int (iI (bZ (g0 ∧ hmL (D 38) (D 34 i) n = false)))), none] [] (hp E (wrM m D)) Q) : ∀ (kk : Nat) (k : Nat), n - k = kk → k ≤ n → T E 3 mX9_law 58 [some (rf E 29 0 0), some (.int (iI (l : Int))), some (.int (iI (n : Int))), some (.int (iI wr)), some (.int (iI (i : Int))), some (.int (iI (bZ (g0 ∧ hmL (D 38) (D 34 i) k = false)))), some (.int (iI (k : Int)))] [] (hp E (wrM m D)) Q := by
  intro kk
  induction kk using Nat.strongRecOn with
  | ind kk ih =>
    intro k hk hkn
    refine T.iload dX9_law_58 rfl ?_
    refine T.iload_n dX9_law_60 rfl ?_
    refine T.icmp_ge 99 dX9_law_61 (by unfold rg; omega) (by unfold rg; omega) (fun c1 => ?_) (fun c1 => ?_)
    · refine T.fgt (ls' := [some (rf E 29 0 0), some (.int (iI (l : Int))), some (.int (iI (n : Int))), some (.int (iI wr)), some (.int (iI (i : Int))), some (.int (iI (bZ (g0 ∧ hmL (D 38) (D 34 i) k = false)))), none]) (by simp [lsw]) ?_
      rw [show k = n from by omega]
      exact hK
    · refine T.iload dX9_law_64 rfl ?_
      refine T.ifB_eq 90 dX9_law_66 (fun c2 => ?_) (fun c2 => ?_)
      · refine T.iconst dX9_law_90 ?_
        refine T.istore (ls' := [some (rf E 29 0 0), some (.int (iI (l : Int))), some (.int (iI (n : Int))), some (.int (iI wr)), some (.int (iI (i : Int))), some (.int (iI 0)), some (.int (iI (k : Int)))]) dX9_law_91 rfl ?_
        refine T.iinc (ls' := [some (rf E 29 0 0), some (.int (iI (l : Int))), some (.int (iI (n : Int))), some (.int (iI wr)), some (.int (iI (i : Int))), some (.int (iI 0)), some (.int (iI ((k : Int) + 1)))]) dX9_law_93 rfl rfl ?_
        refine T.goto 58 dX9_law_96 ?_
        have hu : hmL (D 38) (D 34 i) (k + 1) = (hmL (D 38) (D 34 i) k || decide (D 38 k = D 34 i)) := rfl
        have h0 := ih (n - (k + 1)) (by omega) (k + 1) rfl (by omega)
        rw [show bZ (g0 ∧ hmL (D 38) (D 34 i) (k + 1) = false) = 0 from bZ_f (fun z => by obtain ⟨z1, z2⟩ := z; rw [hu, Bool.or_eq_false_iff] at z2; obtain ⟨z3, z4⟩ := z2; first | exact absurd (show g0 ∧ hmL (D 38) (D 34 i) k = false from ⟨z1, z3⟩) (by assumption) | (simp at z4; omega))] at h0
        exact h0
      · refine T.aload_n dX9_law_69 rfl ?_
        refine T.mget (v := rf E 38 0 0) dX9_law_70 fo_X9_25 ok29 rfl rfl ?_
        refine T.iload dX9_law_73 rfl ?_
        refine T.aI (z := D 38 k) (x := k) dX9_law_75 ok38 (fun _ => rfl) rfl (by omega) (wrM_c rfl) ?_
        have q3 : 0 ≤ D 38 k ∧ D 38 k ≤ 127 := hD 38 k rfl
        refine T.aload_n dX9_law_76 rfl ?_
        refine T.mget (v := rf E 34 0 0) dX9_law_77 fo_X9_16 ok29 rfl rfl ?_
        refine T.iload dX9_law_80 rfl ?_
        refine T.aI (z := D 34 i) (x := i) dX9_law_82 ok34 (fun _ => rfl) rfl (by omega) (wrM_c rfl) ?_
        have q4 : 0 ≤ D 34 i ∧ D 34 i ≤ 127 := hD 34 i rfl
        refine T.icmp_eq 90 dX9_law_83 (by unfold rg; omega) (by unfold rg; omega) (fun c5 => ?_) (fun c5 => ?_)
        · refine T.iconst dX9_law_90 ?_
          refine T.istore (ls' := [some (rf E 29 0 0), some (.int (iI (l : Int))), some (.int (iI (n : Int))), some (.int (iI wr)), some (.int (iI (i : Int))), some (.int (iI 0)), some (.int (iI (k : Int)))]) dX9_law_91 rfl ?_
          refine T.iinc (ls' := [some (rf E 29 0 0), some (.int (iI (l : Int))), some (.int (iI (n : Int))), some (.int (iI wr)), some (.int (iI (i : Int))), some (.int (iI 0)), some (.int (iI ((k : Int) + 1)))]) dX9_law_93 rfl rfl ?_
          refine T.goto 58 dX9_law_96 ?_
          have hu : hmL (D 38) (D 34 i) (k + 1) = (hmL (D 38) (D 34 i) k || decide (D 38 k = D 34 i)) := rfl
          have h0 := ih (n - (k + 1)) (by omega) (k + 1) rfl (by omega)
          rw [show bZ (g0 ∧ hmL (D 38) (D 34 i) (k + 1) = false) = 0 from bZ_f (fun z => by obtain ⟨z1, z2⟩ := z; rw [hu, Bool.or_eq_false_iff] at z2; obtain ⟨z3, z4⟩ := z2; first | exact absurd (show g0 ∧ hmL (D 38) (D 34 i) k = false from ⟨z1, z3⟩) (by assumption) | (simp at z4; omega))] at h0
          exact h0
        · refine T.iconst dX9_law_86 ?_
          refine T.goto 91 dX9_law_87 ?_
          refine T.istore (ls' := [some (rf E 29 0 0), some (.int (iI (l : Int))), some (.int (iI (n : Int))), some (.int (iI wr)), some (.int (iI (i : Int))), some (.int (iI 1)), some (.int (iI (k : Int)))]) dX9_law_91 rfl ?_
          refine T.iinc (ls' := [some (rf E 29 0 0), some (.int (iI (l : Int))), some (.int (iI (n : Int))), some (.int (iI wr)), some (.int (iI (i : Int))), some (.int (iI 1)), some (.int (iI ((k : Int) + 1)))]) dX9_law_93 rfl rfl ?_
          refine T.goto 58 dX9_law_96 ?_
          have hu : hmL (D 38) (D 34 i) (k + 1) = (hmL (D 38) (D 34 i) k || decide (D 38 k = D 34 i)) := rfl
          have h0 := ih (n - (k + 1)) (by omega) (k + 1) rfl (by omega)
          rw [show bZ (g0 ∧ hmL (D 38) (D 34 i) (k + 1) = false) = 1 from bZ_t ⟨(‹g0 ∧ hmL (D 38) (D 34 i) k = false›).1, by rw [hu, (‹g0 ∧ hmL (D 38) (D 34 i) k = false›).2]; simp; omega⟩] at h0
          exact h0
set_option maxHeartbeats 4000000 in
set_option maxRecDepth 100000 in
theorem n_law_lp (E : Ev) (m : Mem) (S : PS) (l : Nat) (hS : InvS kM S) (hl : l < 2) (N : Nat) (hN : S 29 5 = N) : ∀ (k : Nat) (i n : Nat) (wr : Int) (rd : Nat → Int) (D : PS), N - i = k → i ≤ N → n ≤ 12 → n ≤ i → (-1 ≤ wr ∧ wr ≤ 40) → (∀ x, 0 ≤ rd x ∧ rd x ≤ 127) → D = setT S 38 rd → T E 3 mX9_law 16 [some (rf E 29 0 0), some (.int (iI (l : Int))), some (.int (iI (n : Int))), some (.int (iI wr)), some (.int (iI (i : Int))), none, none] [] (hp E (wrM m D)) (fun r' h' => r' = some (.int (iI (lwR (setT S 38 (lwF (S 34) (N - i) i n wr rd).2.2) (lwF (S 34) (N - i) i n wr rd).1 (lwF (S 34) (N - i) i n wr rd).2.1))) ∧ h' = hp E (wrM m (lwS (setT S 38 (lwF (S 34) (N - i) i n wr rd).2.2) l (lwF (S 34) (N - i) i n wr rd).1 (lwF (S 34) (N - i) i n wr rd).2.1))) := by
  have hn8 : 0 ≤ S 29 5 ∧ S 29 5 ≤ 40 := hS 29 5 rfl
  intro k
  induction k using Nat.strongRecOn with
  | ind k ih =>
    intro i n wr rd D hk hiN hn hni hw hrd hDe
    have hD : InvS kM D := by rw [hDe]; exact hS.set (fun x => hrd x)
    have e34 : D 34 = S 34 := by rw [hDe, setT_d (by decide)]
    have e38 : D 38 = rd := by rw [hDe, setT_k]
    have e5 : D 29 5 = S 29 5 := by rw [hDe, setT_d (by decide)]
    have hb : 0 ≤ S 34 i ∧ S 34 i ≤ 127 := hS 34 i rfl
    have e34i : D 34 i = S 34 i := by rw [e34]
    refine T.iload dX9_law_16 rfl ?_
    refine T.aload_n dX9_law_18 rfl ?_
    refine T.gI (z := D 29 5) dX9_law_19 fo_X9_126 ok29 rfl rfl (wrM_c rfl) ?_
    have q1 : 0 ≤ D 29 5 ∧ D 29 5 ≤ 40 := hD 29 5 rfl
    refine T.icmp_ge 144 dX9_law_22 (by unfold rg; omega) (by unfold rg; omega) (fun c2 => ?_) (fun c2 => ?_)
    · refine T.fgt (ls' := [some (rf E 29 0 0), some (.int (iI (l : Int))), some (.int (iI (n : Int))), some (.int (iI wr)), none, none, none]) (by simp [lsw]) ?_
      rw [show lwF (S 34) (N - i) i n wr rd = (n, wr, rd) from by cases hf : N - i with
          | zero => rfl
          | succ f => exact if_pos (by omega), ← hDe]
      exact n_law_144 E m D l n wr hD hl hn (by omega)
    · refine T.iload_n dX9_law_25 rfl ?_
      refine T.if_ge 144 dX9_law_26 (by unfold rg; omega) (fun c3 => ?_) (fun c3 => ?_)
      · refine T.fgt (ls' := [some (rf E 29 0 0), some (.int (iI (l : Int))), some (.int (iI (n : Int))), some (.int (iI wr)), none, none, none]) (by simp [lsw]) ?_
        rw [show lwF (S 34) (N - i) i n wr rd = (n, wr, rd) from by cases hf : N - i with
            | zero => rfl
            | succ f => exact if_pos (by omega), ← hDe]
        exact n_law_144 E m D l n wr hD hl hn (by omega)
      · refine T.aload_n dX9_law_29 rfl ?_
        refine T.mget (v := rf E 34 0 0) dX9_law_30 fo_X9_16 ok29 rfl rfl ?_
        refine T.iload dX9_law_33 rfl ?_
        refine T.aI (z := D 34 i) (x := i) dX9_law_35 ok34 (fun _ => rfl) rfl (by omega) (wrM_c rfl) ?_
        have q4 : 0 ≤ D 34 i ∧ D 34 i ≤ 127 := hD 34 i rfl
        refine T.cS1 (As := [.int (iI (D 34 i))]) (st := []) dX9_law_36 lk_X9_132 (n_isLetter E _ (by unfold rg; omega)) (by decide) rfl rfl (Nat.le_of_ble_eq_true rfl) ?_
        refine T.ifB_eq 52 dX9_law_39 (fun c5 => ?_) (fun c5 => ?_)
        · refine T.iconst dX9_law_52 ?_
          refine T.istore (ls' := [some (rf E 29 0 0), some (.int (iI (l : Int))), some (.int (iI (n : Int))), some (.int (iI wr)), some (.int (iI (i : Int))), some (.int (iI 0)), none]) dX9_law_53 rfl ?_
          refine T.iconst dX9_law_55 ?_
          refine T.istore (ls' := [some (rf E 29 0 0), some (.int (iI (l : Int))), some (.int (iI (n : Int))), some (.int (iI wr)), some (.int (iI (i : Int))), some (.int (iI 0)), some (.int (iI 0))]) dX9_law_56 rfl ?_
          have h0 := n_law_in E m D l n i wr (isLt (D 34 i) ∧ n < 12) hD hn (by omega) (fun r' h' => r' = some (.int (iI (lwR (setT S 38 (lwF (S 34) (N - i) i n wr rd).2.2) (lwF (S 34) (N - i) i n wr rd).1 (lwF (S 34) (N - i) i n wr rd).2.1))) ∧ h' = hp E (wrM m (lwS (setT S 38 (lwF (S 34) (N - i) i n wr rd).2.2) l (lwF (S 34) (N - i) i n wr rd).1 (lwF (S 34) (N - i) i n wr rd).2.1))) ?_ _ 0 rfl (Nat.zero_le _)
          · rw [show bZ ((isLt (D 34 i) ∧ n < 12) ∧ hmL (D 38) (D 34 i) 0 = false) = 0 from bZ_f (fun z => by obtain ⟨⟨z1, z2⟩, z3⟩ := z; first | omega | contradiction)] at h0
            exact h0
          · refine T.iload dX9_law_99 rfl ?_
            refine T.ifB_eq 123 dX9_law_101 (fun c1 => ?_) (fun c1 => ?_)
            · refine T.aload_n dX9_law_123 rfl ?_
              refine T.mget (v := rf E 34 0 0) dX9_law_124 fo_X9_16 ok29 rfl rfl ?_
              refine T.iload dX9_law_127 rfl ?_
              refine T.aI (z := D 34 i) (x := i) dX9_law_129 ok34 (fun _ => rfl) rfl (by omega) (wrM_c rfl) ?_
              have q2 : 0 ≤ D 34 i ∧ D 34 i ≤ 127 := hD 34 i rfl
              refine T.bipush dX9_law_130 ?_
              refine T.icmp_eq 138 dX9_law_132 (by unfold rg; omega) (by unfold rg; omega) (fun c3 => ?_) (fun c3 => ?_)
              · refine T.iinc (ls' := [some (rf E 29 0 0), some (.int (iI (l : Int))), some (.int (iI (n : Int))), some (.int (iI wr)), some (.int (iI ((i : Int) + 1))), some (.int (iI (bZ ((isLt (D 34 i) ∧ n < 12) ∧ hmL (D 38) (D 34 i) n = false)))), none]) dX9_law_138 rfl rfl ?_
                refine T.goto 16 dX9_law_141 ?_
                refine T.fgt (ls' := [some (rf E 29 0 0), some (.int (iI (l : Int))), some (.int (iI (n : Int))), some (.int (iI wr)), some (.int (iI ((i : Int) + 1))), none, none]) (by simp [lsw]) ?_
                have hg2 : ¬ gdR rd (S 34 i) n := by rw [← e38, ← e34i]; assumption
                rw [show lwF (S 34) (N - i) i n wr rd = lwF (S 34) (N - (i + 1)) (i + 1) n wr rd from by rw [show N - i = (N - (i + 1)) + 1 from by omega]; exact (if_neg (by omega)).trans ((if_neg hg2).trans (if_pos (by omega)))]
                exact ih (N - (i + 1)) (by omega) (i + 1) n wr rd D rfl (by omega) (by omega) (by omega) (by omega) hrd hDe
              · refine T.iload dX9_law_135 rfl ?_
                refine T.istore_n (ls' := [some (rf E 29 0 0), some (.int (iI (l : Int))), some (.int (iI (n : Int))), some (.int (iI (i : Int))), some (.int (iI (i : Int))), some (.int (iI (bZ ((isLt (D 34 i) ∧ n < 12) ∧ hmL (D 38) (D 34 i) n = false)))), none]) dX9_law_137 rfl ?_
                refine T.iinc (ls' := [some (rf E 29 0 0), some (.int (iI (l : Int))), some (.int (iI (n : Int))), some (.int (iI (i : Int))), some (.int (iI ((i : Int) + 1))), some (.int (iI (bZ ((isLt (D 34 i) ∧ n < 12) ∧ hmL (D 38) (D 34 i) n = false)))), none]) dX9_law_138 rfl rfl ?_
                refine T.goto 16 dX9_law_141 ?_
                refine T.fgt (ls' := [some (rf E 29 0 0), some (.int (iI (l : Int))), some (.int (iI (n : Int))), some (.int (iI (i : Int))), some (.int (iI ((i : Int) + 1))), none, none]) (by simp [lsw]) ?_
                have hg2 : ¬ gdR rd (S 34 i) n := by rw [← e38, ← e34i]; assumption
                rw [show lwF (S 34) (N - i) i n wr rd = lwF (S 34) (N - (i + 1)) (i + 1) n (i : Int) rd from by rw [show N - i = (N - (i + 1)) + 1 from by omega]; exact (if_neg (by omega)).trans ((if_neg hg2).trans (if_neg (by omega)))]
                exact ih (N - (i + 1)) (by omega) (i + 1) n (i : Int) rd D rfl (by omega) (by omega) (by omega) (by omega) hrd hDe
            · refine T.aload_n dX9_law_104 rfl ?_
              refine T.mget (v := rf E 38 0 0) dX9_law_105 fo_X9_25 ok29 rfl rfl ?_
              refine T.iload_n dX9_law_108 rfl ?_
              refine T.aload_n dX9_law_109 rfl ?_
              refine T.mget (v := rf E 34 0 0) dX9_law_110 fo_X9_16 ok29 rfl rfl ?_
              refine T.iload dX9_law_113 rfl ?_
              refine T.aI (z := D 34 i) (x := i) dX9_law_115 ok34 (fun _ => rfl) rfl (by omega) (wrM_c rfl) ?_
              have q4 : 0 ≤ D 34 i ∧ D 34 i ≤ 127 := hD 34 i rfl
              refine T.nist (x := n) dX9_law_116 rfl ok38 (fun _ => rfl) rfl (by omega) ?_
              refine T.iinc (ls' := [some (rf E 29 0 0), some (.int (iI (l : Int))), some (.int (iI ((n : Int) + 1))), some (.int (iI wr)), some (.int (iI (i : Int))), some (.int (iI (bZ ((isLt (D 34 i) ∧ n < 12) ∧ hmL (D 38) (D 34 i) n = false)))), none]) dX9_law_117 rfl rfl ?_
              refine T.goto 138 dX9_law_120 ?_
              refine T.iinc (ls' := [some (rf E 29 0 0), some (.int (iI (l : Int))), some (.int (iI ((n : Int) + 1))), some (.int (iI wr)), some (.int (iI ((i : Int) + 1))), some (.int (iI (bZ ((isLt (D 34 i) ∧ n < 12) ∧ hmL (D 38) (D 34 i) n = false)))), none]) dX9_law_138 rfl rfl ?_
              refine T.goto 16 dX9_law_141 ?_
              refine T.fgt (ls' := [some (rf E 29 0 0), some (.int (iI (l : Int))), some (.int (iI ((n : Int) + 1))), some (.int (iI wr)), some (.int (iI ((i : Int) + 1))), none, none]) (by simp [lsw]) ?_
              have hg2 : gdR rd (S 34 i) n := by rw [← e38, ← e34i]; assumption
              rw [show lwF (S 34) (N - i) i n wr rd = lwF (S 34) (N - (i + 1)) (i + 1) (n + 1) wr (upd1 rd n (S 34 i)) from by rw [show N - i = (N - (i + 1)) + 1 from by omega]; exact (if_neg (by omega)).trans (if_pos hg2), show upT D 38 n (D 34 i) = setT S 38 (upd1 rd n (S 34 i)) from by rw [e34i, hDe, upT_setT']]
              exact ih (N - (i + 1)) (by omega) (i + 1) (n + 1) wr _ _ rfl (by omega) (by have := hg2.1.2; omega) (by omega) (by omega) (fun x => by unfold upd1; split; exact hb; exact hrd x) rfl
        · refine T.iload_n dX9_law_42 rfl ?_
          refine T.bipush dX9_law_43 ?_
          refine T.icmp_ge 52 dX9_law_45 (by unfold rg; omega) (by unfold rg; omega) (fun c6 => ?_) (fun c6 => ?_)
          · refine T.iconst dX9_law_52 ?_
            refine T.istore (ls' := [some (rf E 29 0 0), some (.int (iI (l : Int))), some (.int (iI (n : Int))), some (.int (iI wr)), some (.int (iI (i : Int))), some (.int (iI 0)), none]) dX9_law_53 rfl ?_
            refine T.iconst dX9_law_55 ?_
            refine T.istore (ls' := [some (rf E 29 0 0), some (.int (iI (l : Int))), some (.int (iI (n : Int))), some (.int (iI wr)), some (.int (iI (i : Int))), some (.int (iI 0)), some (.int (iI 0))]) dX9_law_56 rfl ?_
            have h0 := n_law_in E m D l n i wr (isLt (D 34 i) ∧ n < 12) hD hn (by omega) (fun r' h' => r' = some (.int (iI (lwR (setT S 38 (lwF (S 34) (N - i) i n wr rd).2.2) (lwF (S 34) (N - i) i n wr rd).1 (lwF (S 34) (N - i) i n wr rd).2.1))) ∧ h' = hp E (wrM m (lwS (setT S 38 (lwF (S 34) (N - i) i n wr rd).2.2) l (lwF (S 34) (N - i) i n wr rd).1 (lwF (S 34) (N - i) i n wr rd).2.1))) ?_ _ 0 rfl (Nat.zero_le _)
            · rw [show bZ ((isLt (D 34 i) ∧ n < 12) ∧ hmL (D 38) (D 34 i) 0 = false) = 0 from bZ_f (fun z => by obtain ⟨⟨z1, z2⟩, z3⟩ := z; first | omega | contradiction)] at h0
              exact h0
            · refine T.iload dX9_law_99 rfl ?_
              refine T.ifB_eq 123 dX9_law_101 (fun c1 => ?_) (fun c1 => ?_)
              · refine T.aload_n dX9_law_123 rfl ?_
                refine T.mget (v := rf E 34 0 0) dX9_law_124 fo_X9_16 ok29 rfl rfl ?_
                refine T.iload dX9_law_127 rfl ?_
                refine T.aI (z := D 34 i) (x := i) dX9_law_129 ok34 (fun _ => rfl) rfl (by omega) (wrM_c rfl) ?_
                have q2 : 0 ≤ D 34 i ∧ D 34 i ≤ 127 := hD 34 i rfl
                refine T.bipush dX9_law_130 ?_
                refine T.icmp_eq 138 dX9_law_132 (by unfold rg; omega) (by unfold rg; omega) (fun c3 => ?_) (fun c3 => ?_)
                · refine T.iinc (ls' := [some (rf E 29 0 0), some (.int (iI (l : Int))), some (.int (iI (n : Int))), some (.int (iI wr)), some (.int (iI ((i : Int) + 1))), some (.int (iI (bZ ((isLt (D 34 i) ∧ n < 12) ∧ hmL (D 38) (D 34 i) n = false)))), none]) dX9_law_138 rfl rfl ?_
                  refine T.goto 16 dX9_law_141 ?_
                  refine T.fgt (ls' := [some (rf E 29 0 0), some (.int (iI (l : Int))), some (.int (iI (n : Int))), some (.int (iI wr)), some (.int (iI ((i : Int) + 1))), none, none]) (by simp [lsw]) ?_
                  have hg2 : ¬ gdR rd (S 34 i) n := by rw [← e38, ← e34i]; assumption
                  rw [show lwF (S 34) (N - i) i n wr rd = lwF (S 34) (N - (i + 1)) (i + 1) n wr rd from by rw [show N - i = (N - (i + 1)) + 1 from by omega]; exact (if_neg (by omega)).trans ((if_neg hg2).trans (if_pos (by omega)))]
                  exact ih (N - (i + 1)) (by omega) (i + 1) n wr rd D rfl (by omega) (by omega) (by omega) (by omega) hrd hDe
                · refine T.iload dX9_law_135 rfl ?_
                  refine T.istore_n (ls' := [some (rf E 29 0 0), some (.int (iI (l : Int))), some (.int (iI (n : Int))), some (.int (iI (i : Int))), some (.int (iI (i : Int))), some (.int (iI (bZ ((isLt (D 34 i) ∧ n < 12) ∧ hmL (D 38) (D 34 i) n = false)))), none]) dX9_law_137 rfl ?_
                  refine T.iinc (ls' := [some (rf E 29 0 0), some (.int (iI (l : Int))), some (.int (iI (n : Int))), some (.int (iI (i : Int))), some (.int (iI ((i : Int) + 1))), some (.int (iI (bZ ((isLt (D 34 i) ∧ n < 12) ∧ hmL (D 38) (D 34 i) n = false)))), none]) dX9_law_138 rfl rfl ?_
                  refine T.goto 16 dX9_law_141 ?_
                  refine T.fgt (ls' := [some (rf E 29 0 0), some (.int (iI (l : Int))), some (.int (iI (n : Int))), some (.int (iI (i : Int))), some (.int (iI ((i : Int) + 1))), none, none]) (by simp [lsw]) ?_
                  have hg2 : ¬ gdR rd (S 34 i) n := by rw [← e38, ← e34i]; assumption
                  rw [show lwF (S 34) (N - i) i n wr rd = lwF (S 34) (N - (i + 1)) (i + 1) n (i : Int) rd from by rw [show N - i = (N - (i + 1)) + 1 from by omega]; exact (if_neg (by omega)).trans ((if_neg hg2).trans (if_neg (by omega)))]
                  exact ih (N - (i + 1)) (by omega) (i + 1) n (i : Int) rd D rfl (by omega) (by omega) (by omega) (by omega) hrd hDe
              · refine T.aload_n dX9_law_104 rfl ?_
                refine T.mget (v := rf E 38 0 0) dX9_law_105 fo_X9_25 ok29 rfl rfl ?_
                refine T.iload_n dX9_law_108 rfl ?_
                refine T.aload_n dX9_law_109 rfl ?_
                refine T.mget (v := rf E 34 0 0) dX9_law_110 fo_X9_16 ok29 rfl rfl ?_
                refine T.iload dX9_law_113 rfl ?_
                refine T.aI (z := D 34 i) (x := i) dX9_law_115 ok34 (fun _ => rfl) rfl (by omega) (wrM_c rfl) ?_
                have q4 : 0 ≤ D 34 i ∧ D 34 i ≤ 127 := hD 34 i rfl
                refine T.nist (x := n) dX9_law_116 rfl ok38 (fun _ => rfl) rfl (by omega) ?_
                refine T.iinc (ls' := [some (rf E 29 0 0), some (.int (iI (l : Int))), some (.int (iI ((n : Int) + 1))), some (.int (iI wr)), some (.int (iI (i : Int))), some (.int (iI (bZ ((isLt (D 34 i) ∧ n < 12) ∧ hmL (D 38) (D 34 i) n = false)))), none]) dX9_law_117 rfl rfl ?_
                refine T.goto 138 dX9_law_120 ?_
                refine T.iinc (ls' := [some (rf E 29 0 0), some (.int (iI (l : Int))), some (.int (iI ((n : Int) + 1))), some (.int (iI wr)), some (.int (iI ((i : Int) + 1))), some (.int (iI (bZ ((isLt (D 34 i) ∧ n < 12) ∧ hmL (D 38) (D 34 i) n = false)))), none]) dX9_law_138 rfl rfl ?_
                refine T.goto 16 dX9_law_141 ?_
                refine T.fgt (ls' := [some (rf E 29 0 0), some (.int (iI (l : Int))), some (.int (iI ((n : Int) + 1))), some (.int (iI wr)), some (.int (iI ((i : Int) + 1))), none, none]) (by simp [lsw]) ?_
                have hg2 : gdR rd (S 34 i) n := by rw [← e38, ← e34i]; assumption
                rw [show lwF (S 34) (N - i) i n wr rd = lwF (S 34) (N - (i + 1)) (i + 1) (n + 1) wr (upd1 rd n (S 34 i)) from by rw [show N - i = (N - (i + 1)) + 1 from by omega]; exact (if_neg (by omega)).trans (if_pos hg2), show upT D 38 n (D 34 i) = setT S 38 (upd1 rd n (S 34 i)) from by rw [e34i, hDe, upT_setT']]
                exact ih (N - (i + 1)) (by omega) (i + 1) (n + 1) wr _ _ rfl (by omega) (by have := hg2.1.2; omega) (by omega) (by omega) (fun x => by unfold upd1; split; exact hb; exact hrd x) rfl
          · refine T.iconst dX9_law_48 ?_
            refine T.goto 53 dX9_law_49 ?_
            refine T.istore (ls' := [some (rf E 29 0 0), some (.int (iI (l : Int))), some (.int (iI (n : Int))), some (.int (iI wr)), some (.int (iI (i : Int))), some (.int (iI 1)), none]) dX9_law_53 rfl ?_
            refine T.iconst dX9_law_55 ?_
            refine T.istore (ls' := [some (rf E 29 0 0), some (.int (iI (l : Int))), some (.int (iI (n : Int))), some (.int (iI wr)), some (.int (iI (i : Int))), some (.int (iI 1)), some (.int (iI 0))]) dX9_law_56 rfl ?_
            have h0 := n_law_in E m D l n i wr (isLt (D 34 i) ∧ n < 12) hD hn (by omega) (fun r' h' => r' = some (.int (iI (lwR (setT S 38 (lwF (S 34) (N - i) i n wr rd).2.2) (lwF (S 34) (N - i) i n wr rd).1 (lwF (S 34) (N - i) i n wr rd).2.1))) ∧ h' = hp E (wrM m (lwS (setT S 38 (lwF (S 34) (N - i) i n wr rd).2.2) l (lwF (S 34) (N - i) i n wr rd).1 (lwF (S 34) (N - i) i n wr rd).2.1))) ?_ _ 0 rfl (Nat.zero_le _)
            · rw [show bZ ((isLt (D 34 i) ∧ n < 12) ∧ hmL (D 38) (D 34 i) 0 = false) = 1 from bZ_t ⟨⟨by assumption, by omega⟩, rfl⟩] at h0
              exact h0
            · refine T.iload dX9_law_99 rfl ?_
              refine T.ifB_eq 123 dX9_law_101 (fun c1 => ?_) (fun c1 => ?_)
              · refine T.aload_n dX9_law_123 rfl ?_
                refine T.mget (v := rf E 34 0 0) dX9_law_124 fo_X9_16 ok29 rfl rfl ?_
                refine T.iload dX9_law_127 rfl ?_
                refine T.aI (z := D 34 i) (x := i) dX9_law_129 ok34 (fun _ => rfl) rfl (by omega) (wrM_c rfl) ?_
                have q2 : 0 ≤ D 34 i ∧ D 34 i ≤ 127 := hD 34 i rfl
                refine T.bipush dX9_law_130 ?_
                refine T.icmp_eq 138 dX9_law_132 (by unfold rg; omega) (by unfold rg; omega) (fun c3 => ?_) (fun c3 => ?_)
                · refine T.iinc (ls' := [some (rf E 29 0 0), some (.int (iI (l : Int))), some (.int (iI (n : Int))), some (.int (iI wr)), some (.int (iI ((i : Int) + 1))), some (.int (iI (bZ ((isLt (D 34 i) ∧ n < 12) ∧ hmL (D 38) (D 34 i) n = false)))), none]) dX9_law_138 rfl rfl ?_
                  refine T.goto 16 dX9_law_141 ?_
                  refine T.fgt (ls' := [some (rf E 29 0 0), some (.int (iI (l : Int))), some (.int (iI (n : Int))), some (.int (iI wr)), some (.int (iI ((i : Int) + 1))), none, none]) (by simp [lsw]) ?_
                  have hg2 : ¬ gdR rd (S 34 i) n := by rw [← e38, ← e34i]; assumption
                  rw [show lwF (S 34) (N - i) i n wr rd = lwF (S 34) (N - (i + 1)) (i + 1) n wr rd from by rw [show N - i = (N - (i + 1)) + 1 from by omega]; exact (if_neg (by omega)).trans ((if_neg hg2).trans (if_pos (by omega)))]
                  exact ih (N - (i + 1)) (by omega) (i + 1) n wr rd D rfl (by omega) (by omega) (by omega) (by omega) hrd hDe
                · refine T.iload dX9_law_135 rfl ?_
                  refine T.istore_n (ls' := [some (rf E 29 0 0), some (.int (iI (l : Int))), some (.int (iI (n : Int))), some (.int (iI (i : Int))), some (.int (iI (i : Int))), some (.int (iI (bZ ((isLt (D 34 i) ∧ n < 12) ∧ hmL (D 38) (D 34 i) n = false)))), none]) dX9_law_137 rfl ?_
                  refine T.iinc (ls' := [some (rf E 29 0 0), some (.int (iI (l : Int))), some (.int (iI (n : Int))), some (.int (iI (i : Int))), some (.int (iI ((i : Int) + 1))), some (.int (iI (bZ ((isLt (D 34 i) ∧ n < 12) ∧ hmL (D 38) (D 34 i) n = false)))), none]) dX9_law_138 rfl rfl ?_
                  refine T.goto 16 dX9_law_141 ?_
                  refine T.fgt (ls' := [some (rf E 29 0 0), some (.int (iI (l : Int))), some (.int (iI (n : Int))), some (.int (iI (i : Int))), some (.int (iI ((i : Int) + 1))), none, none]) (by simp [lsw]) ?_
                  have hg2 : ¬ gdR rd (S 34 i) n := by rw [← e38, ← e34i]; assumption
                  rw [show lwF (S 34) (N - i) i n wr rd = lwF (S 34) (N - (i + 1)) (i + 1) n (i : Int) rd from by rw [show N - i = (N - (i + 1)) + 1 from by omega]; exact (if_neg (by omega)).trans ((if_neg hg2).trans (if_neg (by omega)))]
                  exact ih (N - (i + 1)) (by omega) (i + 1) n (i : Int) rd D rfl (by omega) (by omega) (by omega) (by omega) hrd hDe
              · refine T.aload_n dX9_law_104 rfl ?_
                refine T.mget (v := rf E 38 0 0) dX9_law_105 fo_X9_25 ok29 rfl rfl ?_
                refine T.iload_n dX9_law_108 rfl ?_
                refine T.aload_n dX9_law_109 rfl ?_
                refine T.mget (v := rf E 34 0 0) dX9_law_110 fo_X9_16 ok29 rfl rfl ?_
                refine T.iload dX9_law_113 rfl ?_
                refine T.aI (z := D 34 i) (x := i) dX9_law_115 ok34 (fun _ => rfl) rfl (by omega) (wrM_c rfl) ?_
                have q4 : 0 ≤ D 34 i ∧ D 34 i ≤ 127 := hD 34 i rfl
                refine T.nist (x := n) dX9_law_116 rfl ok38 (fun _ => rfl) rfl (by omega) ?_
                refine T.iinc (ls' := [some (rf E 29 0 0), some (.int (iI (l : Int))), some (.int (iI ((n : Int) + 1))), some (.int (iI wr)), some (.int (iI (i : Int))), some (.int (iI (bZ ((isLt (D 34 i) ∧ n < 12) ∧ hmL (D 38) (D 34 i) n = false)))), none]) dX9_law_117 rfl rfl ?_
                refine T.goto 138 dX9_law_120 ?_
                refine T.iinc (ls' := [some (rf E 29 0 0), some (.int (iI (l : Int))), some (.int (iI ((n : Int) + 1))), some (.int (iI wr)), some (.int (iI ((i : Int) + 1))), some (.int (iI (bZ ((isLt (D 34 i) ∧ n < 12) ∧ hmL (D 38) (D 34 i) n = false)))), none]) dX9_law_138 rfl rfl ?_
                refine T.goto 16 dX9_law_141 ?_
                refine T.fgt (ls' := [some (rf E 29 0 0), some (.int (iI (l : Int))), some (.int (iI ((n : Int) + 1))), some (.int (iI wr)), some (.int (iI ((i : Int) + 1))), none, none]) (by simp [lsw]) ?_
                have hg2 : gdR rd (S 34 i) n := by rw [← e38, ← e34i]; assumption
                rw [show lwF (S 34) (N - i) i n wr rd = lwF (S 34) (N - (i + 1)) (i + 1) (n + 1) wr (upd1 rd n (S 34 i)) from by rw [show N - i = (N - (i + 1)) + 1 from by omega]; exact (if_neg (by omega)).trans (if_pos hg2), show upT D 38 n (D 34 i) = setT S 38 (upd1 rd n (S 34 i)) from by rw [e34i, hDe, upT_setT']]
                exact ih (N - (i + 1)) (by omega) (i + 1) (n + 1) wr _ _ rfl (by omega) (by have := hg2.1.2; omega) (by omega) (by omega) (fun x => by unfold upd1; split; exact hb; exact hrd x) rfl
def nlawR (S : PS) (l : Int) : Int := if ¬ (0 ≤ l ∧ l ≤ 1) then -1 else lwR (setT S 38 (lwF (S 34) (S 29 5).toNat 0 0 (-1) (S 38)).2.2) (lwF (S 34) (S 29 5).toNat 0 0 (-1) (S 38)).1 (lwF (S 34) (S 29 5).toNat 0 0 (-1) (S 38)).2.1
def nlawS (S : PS) (l : Int) : PS := if ¬ (0 ≤ l ∧ l ≤ 1) then S else lwS (setT S 38 (lwF (S 34) (S 29 5).toNat 0 0 (-1) (S 38)).2.2) l.toNat (lwF (S 34) (S 29 5).toNat 0 0 (-1) (S 38)).1 (lwF (S 34) (S 29 5).toNat 0 0 (-1) (S 38)).2.1
set_option maxHeartbeats 4000000 in
set_option maxRecDepth 100000 in
theorem n_law (E : Ev) (m : Mem) (S : PS) (l : Int) (hS : InvS kM S) (h1 : rg l) : CT E 3 mX9_law [rf E 29 0 0, .int (iI l)] (hp E (wrM m S)) (some (.int (iI (nlawR S l)))) (hp E (wrM m (nlawS S l))) := by
  refine CT.go okX9_law (Nat.le_of_ble_eq_true rfl) ?_
  show T E 3 mX9_law 0 [some (rf E 29 0 0), some (.int (iI l)), none, none, none, none, none] [] (hp E (wrM m S)) _
  unfold rg at h1
  refine T.iload_n dX9_law_0 rfl ?_
  refine T.cS1 (As := [.int (iI l)]) (st := []) dX9_law_1 lk_X9_129 (n_isLaw E _ (by unfold rg; omega)) (by decide) rfl rfl (Nat.le_of_ble_eq_true rfl) ?_
  refine T.ifB_ne 9 dX9_law_4 (fun c1 => ?_) (fun c1 => ?_)
  · refine T.iconst dX9_law_9 ?_
    refine T.istore_n (ls' := [some (rf E 29 0 0), some (.int (iI l)), some (.int (iI 0)), none, none, none, none]) dX9_law_10 rfl ?_
    refine T.iconst dX9_law_11 ?_
    refine T.istore_n (ls' := [some (rf E 29 0 0), some (.int (iI l)), some (.int (iI 0)), some (.int (iI (-1))), none, none, none]) dX9_law_12 rfl ?_
    refine T.iconst dX9_law_13 ?_
    refine T.istore (ls' := [some (rf E 29 0 0), some (.int (iI l)), some (.int (iI 0)), some (.int (iI (-1))), some (.int (iI 0)), none, none]) dX9_law_14 rfl ?_
    have hn8 : 0 ≤ S 29 5 ∧ S 29 5 ≤ 40 := hS 29 5 rfl
    rw [show nlawR S l = lwR (setT S 38 (lwF (S 34) (S 29 5).toNat 0 0 (-1) (S 38)).2.2) (lwF (S 34) (S 29 5).toNat 0 0 (-1) (S 38)).1 (lwF (S 34) (S 29 5).toNat 0 0 (-1) (S 38)).2.1 from by unfold nlawR; rw [if_neg (by omega)], show nlawS S l = lwS (setT S 38 (lwF (S 34) (S 29 5).toNat 0 0 (-1) (S 38)).2.2) l.toNat (lwF (S 34) (S 29 5).toNat 0 0 (-1) (S 38)).1 (lwF (S 34) (S 29 5).toNat 0 0 (-1) (S 38)).2.1 from by unfold nlawS; rw [if_neg (by omega)]]
    have h0 := n_law_lp E m S l.toNat hS (by omega) _ (Int.toNat_of_nonneg hn8.1).symm _ 0 0 (-1) (S 38) S rfl (Nat.zero_le _) (by omega) (by omega) (by omega) (fun x => hS 38 x rfl) setT_self.symm
    rw [show (((l).toNat : Nat) : Int) = l from by omega] at h0
    exact h0
  · refine T.iconst dX9_law_7 ?_
    exact T.iret dX9_law_8 ⟨congrArg (fun z => some (Value.int (iI z))) (Eq.symm (show nlawR S l = (-1) from by unfold nlawR; rw [if_pos (by omega)] <;> first | rfl | omega)), congrArg (fun z => hp E (wrM m z)) (Eq.symm (show nlawS S l = S from by unfold nlawS; rw [if_pos (by omega)] <;> rfl))⟩
