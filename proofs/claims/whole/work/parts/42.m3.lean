abbrev cmM (S : PS) (l : Nat) (y : Int) (a b : Nat) : Int := cmpN (bkM S) y (fun x => S 39 x + S 40 x) (fun k => S 36 (12 * l + k)) a b (S 37 l).toNat
set_option maxHeartbeats 4000000 in
set_option maxRecDepth 100000 in
theorem n_cmp_lp (E : Ev) (m : Mem) (S : PS) (l a b : Nat) (y : Int) (hS : InvS kM S) (hl : l < 2) (ha : a < 8) (hb : b < 8) (hy : 0 ≤ y ∧ y ≤ 299) (n : Nat) (hn : S 37 l = n) : ∀ (k : Nat) (i : Nat), n - i = k → i ≤ n → cmpN (bkM S) y (fun x => S 39 x + S 40 x) (fun k => S 36 (12 * l + k)) a b i = 0 → T E 2 mX9_compare 3 [some (rf E 29 0 0), some (.int (iI (l : Int))), some (.int (iI (a : Int))), some (.int (iI (b : Int))), some (.int (iI y)), some (.int (iI (i : Int))), none, none, none, none, none] [] (hp E (wrM m S)) (fun r' h' => r' = some (.int (iI (cmpN (bkM S) y (fun x => S 39 x + S 40 x) (fun k => S 36 (12 * l + k)) a b n))) ∧ h' = (hp E (wrM m S))) := by
  have hn8 : 0 ≤ S 37 l ∧ S 37 l ≤ 12 := hS 37 l rfl
  have b1 : 0 ≤ S 39 a ∧ S 39 a ≤ 99990000 := hS 39 a rfl
  have b2 : 0 ≤ S 40 a ∧ S 40 a ≤ 4000000000 := hS 40 a rfl
  have b3 : 0 ≤ S 39 b ∧ S 39 b ≤ 99990000 := hS 39 b rfl
  have b4 : 0 ≤ S 40 b ∧ S 40 b ≤ 4000000000 := hS 40 b rfl
  intro k
  induction k using Nat.strongRecOn with
  | ind k ih =>
    intro i hk hin h0
    have tail : i < n → ∀ u v : Int, (-5000000000 ≤ u ∧ u ≤ 5000000000) → (-5000000000 ≤ v ∧ v ≤ 5000000000) → keyV (bkM S) y (fun x => S 39 x + S 40 x) (S 36 (12 * l + i)) a = u → keyV (bkM S) y (fun x => S 39 x + S 40 x) (S 36 (12 * l + i)) b = v → T E 2 mX9_compare 273 [some (rf E 29 0 0), some (.int (iI (l : Int))), some (.int (iI (a : Int))), some (.int (iI (b : Int))), some (.int (iI y)), some (.int (iI (i : Int))), none, some (.long (lI u)), none, some (.long (lI v)), none] [] (hp E (wrM m S)) (fun r' h' => r' = some (.int (iI (cmpN (bkM S) y (fun x => S 39 x + S 40 x) (fun k => S 36 (12 * l + k)) a b n))) ∧ h' = (hp E (wrM m S))) := by
      intro hin2 u v hu hv hku hkv
      refine T.lload dX9_compare_273 rfl ?_
      refine T.lload dX9_compare_275 rfl ?_
      refine T.lcmp_eq 295 dX9_compare_277 dX9_compare_278 (by unfold rl; omega) (by unfold rl; omega) (fun c1 => ?_) (fun c1 => ?_)
      · refine T.iinc (ls' := [some (rf E 29 0 0), some (.int (iI (l : Int))), some (.int (iI (a : Int))), some (.int (iI (b : Int))), some (.int (iI y)), some (.int (iI ((i : Int) + 1))), none, some (.long (lI u)), none, some (.long (lI v)), none]) dX9_compare_295 rfl rfl ?_
        refine T.goto 3 dX9_compare_298 ?_
        refine T.fgt (ls' := [some (rf E 29 0 0), some (.int (iI (l : Int))), some (.int (iI (a : Int))), some (.int (iI (b : Int))), some (.int (iI y)), some (.int (iI ((i : Int) + 1))), none, none, none, none, none]) (by simp [lsw]) ?_
        have hz : sg (keyV (bkM S) y (fun x => S 39 x + S 40 x) (S 36 (12 * l + i)) a) (keyV (bkM S) y (fun x => S 39 x + S 40 x) (S 36 (12 * l + i)) b) = 0 := by rw [hku, hkv]; unfold sg; (repeat split) <;> omega
        exact ih (n - (i + 1)) (by omega) (i + 1) rfl (by omega) (by show (if cmpN (bkM S) y (fun x => S 39 x + S 40 x) (fun k => S 36 (12 * l + k)) a b i = 0 then _ else _) = 0; rw [if_pos h0]; exact hz)
      · refine T.lload dX9_compare_281 rfl ?_
        refine T.lload dX9_compare_283 rfl ?_
        refine T.lcmp_ge 293 dX9_compare_285 dX9_compare_286 (by unfold rl; omega) (by unfold rl; omega) (fun c2 => ?_) (fun c2 => ?_)
        · refine T.iconst dX9_compare_293 ?_
          have hz : sg (keyV (bkM S) y (fun x => S 39 x + S 40 x) (S 36 (12 * l + i)) a) (keyV (bkM S) y (fun x => S 39 x + S 40 x) (S 36 (12 * l + i)) b) = 1 := by rw [hku, hkv]; unfold sg; (repeat split) <;> omega
          exact T.iret dX9_compare_294 ⟨by rw [cmpN_stop (lt := fun k => S 36 (12 * l + k)) h0 hz (by omega) n (by omega)], rfl⟩
        · refine T.iconst dX9_compare_289 ?_
          refine T.goto 294 dX9_compare_290 ?_
          have hz : sg (keyV (bkM S) y (fun x => S 39 x + S 40 x) (S 36 (12 * l + i)) a) (keyV (bkM S) y (fun x => S 39 x + S 40 x) (S 36 (12 * l + i)) b) = (-1) := by rw [hku, hkv]; unfold sg; (repeat split) <;> omega
          exact T.iret dX9_compare_294 ⟨by rw [cmpN_stop (lt := fun k => S 36 (12 * l + k)) h0 hz (by omega) n (by omega)], rfl⟩
    refine T.iload dX9_compare_3 rfl ?_
    refine T.aload_n dX9_compare_5 rfl ?_
    refine T.mget (v := rf E 37 0 0) dX9_compare_6 fo_X9_22 ok29 rfl rfl ?_
    refine T.iload_n dX9_compare_9 rfl ?_
    refine T.aI (z := S 37 l) (x := l) dX9_compare_10 ok37 (fun _ => rfl) rfl (by omega) (wrM_c rfl) ?_
    have q1 : 0 ≤ S 37 l ∧ S 37 l ≤ 12 := hS 37 l rfl
    refine T.icmp_ge 301 dX9_compare_11 (by unfold rg; omega) (by unfold rg; omega) (fun c2 => ?_) (fun c2 => ?_)
    · refine T.iconst dX9_compare_301 ?_
      exact T.iret dX9_compare_302 ⟨by rw [show (0 : Int) = cmpN (bkM S) y (fun x => S 39 x + S 40 x) (fun k => S 36 (12 * l + k)) a b n from by rw [show n = i from by omega]; exact h0.symm], rfl⟩
    · refine T.aload_n dX9_compare_14 rfl ?_
      refine T.mget (v := rf E 36 0 0) dX9_compare_15 fo_X9_19 ok29 rfl rfl ?_
      refine T.bipush dX9_compare_18 ?_
      refine T.iload_n dX9_compare_20 rfl ?_
      refine T.imul dX9_compare_21 ?_
      refine T.iload dX9_compare_22 rfl ?_
      refine T.iadd dX9_compare_24 ?_
      refine T.aI (z := S 36 ((12 * l) + i)) (x := (12 * l) + i) dX9_compare_25 ok36 (fun _ => rfl) (by omega) (by omega) (wrM_c rfl) ?_
      have q3 : 0 ≤ S 36 ((12 * l) + i) ∧ S 36 ((12 * l) + i) ≤ 127 := hS 36 ((12 * l) + i) rfl
      refine T.istore (ls' := [some (rf E 29 0 0), some (.int (iI (l : Int))), some (.int (iI (a : Int))), some (.int (iI (b : Int))), some (.int (iI y)), some (.int (iI (i : Int))), some (.int (iI (S 36 ((12 * l) + i)))), none, none, none, none]) dX9_compare_26 rfl ?_
      refine T.lconst0 dX9_compare_28 ?_
      refine T.lstore (ls' := [some (rf E 29 0 0), some (.int (iI (l : Int))), some (.int (iI (a : Int))), some (.int (iI (b : Int))), some (.int (iI y)), some (.int (iI (i : Int))), some (.int (iI (S 36 ((12 * l) + i)))), some (.long (lI 0)), none, none, none]) dX9_compare_29 rfl ?_
      refine T.lconst0 dX9_compare_31 ?_
      refine T.lstore (ls' := [some (rf E 29 0 0), some (.int (iI (l : Int))), some (.int (iI (a : Int))), some (.int (iI (b : Int))), some (.int (iI y)), some (.int (iI (i : Int))), some (.int (iI (S 36 ((12 * l) + i)))), some (.long (lI 0)), none, some (.long (lI 0)), none]) dX9_compare_32 rfl ?_
      refine T.iload dX9_compare_34 rfl ?_
      refine T.bipush dX9_compare_36 ?_
      refine T.icmp_ne 90 dX9_compare_38 (by unfold rg; omega) (by unfold rg; omega) (fun c4 => ?_) (fun c4 => ?_)
      · refine T.iload dX9_compare_90 rfl ?_
        refine T.bipush dX9_compare_92 ?_
        refine T.icmp_ne 130 dX9_compare_94 (by unfold rg; omega) (by unfold rg; omega) (fun c5 => ?_) (fun c5 => ?_)
        · refine T.iload dX9_compare_130 rfl ?_
          refine T.bipush dX9_compare_132 ?_
          refine T.icmp_ne 212 dX9_compare_134 (by unfold rg; omega) (by unfold rg; omega) (fun c6 => ?_) (fun c6 => ?_)
          · refine T.iload dX9_compare_212 rfl ?_
            refine T.bipush dX9_compare_214 ?_
            refine T.icmp_ne 250 dX9_compare_216 (by unfold rg; omega) (by unfold rg; omega) (fun c7 => ?_) (fun c7 => ?_)
            · refine T.iload dX9_compare_250 rfl ?_
              refine T.bipush dX9_compare_252 ?_
              refine T.icmp_ne 273 dX9_compare_254 (by unfold rg; omega) (by unfold rg; omega) (fun c8 => ?_) (fun c8 => ?_)
              · refine T.fgt (ls' := [some (rf E 29 0 0), some (.int (iI (l : Int))), some (.int (iI (a : Int))), some (.int (iI (b : Int))), some (.int (iI y)), some (.int (iI (i : Int))), none, some (.long (lI 0)), none, some (.long (lI 0)), none]) (by simp [lsw]) ?_
                exact tail (by omega) (0) (0) (by omega) (by omega) (by unfold keyV; rw [if_neg (by omega), if_neg (by omega), if_neg (by omega), if_neg (by omega), if_neg (by omega)]) (by unfold keyV; rw [if_neg (by omega), if_neg (by omega), if_neg (by omega), if_neg (by omega), if_neg (by omega)])
              · refine T.aload_n dX9_compare_257 rfl ?_
                refine T.iload_n dX9_compare_258 rfl ?_
                refine T.cV1 (As := [.int (iI (a : Int))]) (st := []) dX9_compare_259 lk_X9_137 (n_leftOf E m S a (by omega)) ok29 rfl rfl (by decide) rfl rfl (Nat.le_of_ble_eq_true rfl) ?_
                refine T.lneg dX9_compare_262 ?_
                refine T.lstore (ls' := [some (rf E 29 0 0), some (.int (iI (l : Int))), some (.int (iI (a : Int))), some (.int (iI (b : Int))), some (.int (iI y)), some (.int (iI (i : Int))), some (.int (iI (S 36 ((12 * l) + i)))), some (.long (lI (-(S 39 a + S 40 a)))), none, some (.long (lI 0)), none]) dX9_compare_263 rfl ?_
                refine T.aload_n dX9_compare_265 rfl ?_
                refine T.iload_n dX9_compare_266 rfl ?_
                refine T.cV1 (As := [.int (iI (b : Int))]) (st := []) dX9_compare_267 lk_X9_137 (n_leftOf E m S b (by omega)) ok29 rfl rfl (by decide) rfl rfl (Nat.le_of_ble_eq_true rfl) ?_
                refine T.lneg dX9_compare_270 ?_
                refine T.lstore (ls' := [some (rf E 29 0 0), some (.int (iI (l : Int))), some (.int (iI (a : Int))), some (.int (iI (b : Int))), some (.int (iI y)), some (.int (iI (i : Int))), some (.int (iI (S 36 ((12 * l) + i)))), some (.long (lI (-(S 39 a + S 40 a)))), none, some (.long (lI (-(S 39 b + S 40 b)))), none]) dX9_compare_271 rfl ?_
                refine T.fgt (ls' := [some (rf E 29 0 0), some (.int (iI (l : Int))), some (.int (iI (a : Int))), some (.int (iI (b : Int))), some (.int (iI y)), some (.int (iI (i : Int))), none, some (.long (lI (-(S 39 a + S 40 a)))), none, some (.long (lI (-(S 39 b + S 40 b)))), none]) (by simp [lsw]) ?_
                exact tail (by omega) (-(S 39 a + S 40 a)) (-(S 39 b + S 40 b)) (by omega) (by omega) (by rw [show S 36 (12 * l + i) = 108 from by omega]; show (- (S 39 a + S 40 a)) = -(S 39 a + S 40 a); first | rfl | omega) (by rw [show S 36 (12 * l + i) = 108 from by omega]; show (- (S 39 b + S 40 b)) = -(S 39 b + S 40 b); first | rfl | omega)
            · refine T.aload_n dX9_compare_219 rfl ?_
              refine T.mget (v := rf E 31 0 0) dX9_compare_220 fo_X9_7 ok29 rfl rfl ?_
              refine T.bipush dX9_compare_223 ?_
              refine T.iload_n dX9_compare_225 rfl ?_
              refine T.imul dX9_compare_226 ?_
              refine T.iconst dX9_compare_227 ?_
              refine T.iadd dX9_compare_228 ?_
              refine T.aI (z := S 31 ((8 * a) + 1)) (x := (8 * a) + 1) dX9_compare_229 ok31 (fun _ => rfl) (by omega) (by omega) (wrM_c rfl) ?_
              have q9 : -1 ≤ S 31 ((8 * a) + 1) ∧ S 31 ((8 * a) + 1) ≤ 9999 := hS 31 ((8 * a) + 1) rfl
              refine T.i2l dX9_compare_230 (by unfold rg; omega) ?_
              refine T.lstore (ls' := [some (rf E 29 0 0), some (.int (iI (l : Int))), some (.int (iI (a : Int))), some (.int (iI (b : Int))), some (.int (iI y)), some (.int (iI (i : Int))), some (.int (iI (S 36 ((12 * l) + i)))), some (.long (lI (S 31 ((8 * a) + 1)))), none, some (.long (lI 0)), none]) dX9_compare_231 rfl ?_
              refine T.aload_n dX9_compare_233 rfl ?_
              refine T.mget (v := rf E 31 0 0) dX9_compare_234 fo_X9_7 ok29 rfl rfl ?_
              refine T.bipush dX9_compare_237 ?_
              refine T.iload_n dX9_compare_239 rfl ?_
              refine T.imul dX9_compare_240 ?_
              refine T.iconst dX9_compare_241 ?_
              refine T.iadd dX9_compare_242 ?_
              refine T.aI (z := S 31 ((8 * b) + 1)) (x := (8 * b) + 1) dX9_compare_243 ok31 (fun _ => rfl) (by omega) (by omega) (wrM_c rfl) ?_
              have q10 : -1 ≤ S 31 ((8 * b) + 1) ∧ S 31 ((8 * b) + 1) ≤ 9999 := hS 31 ((8 * b) + 1) rfl
              refine T.i2l dX9_compare_244 (by unfold rg; omega) ?_
              refine T.lstore (ls' := [some (rf E 29 0 0), some (.int (iI (l : Int))), some (.int (iI (a : Int))), some (.int (iI (b : Int))), some (.int (iI y)), some (.int (iI (i : Int))), some (.int (iI (S 36 ((12 * l) + i)))), some (.long (lI (S 31 ((8 * a) + 1)))), none, some (.long (lI (S 31 ((8 * b) + 1)))), none]) dX9_compare_245 rfl ?_
              refine T.goto 273 dX9_compare_247 ?_
              refine T.fgt (ls' := [some (rf E 29 0 0), some (.int (iI (l : Int))), some (.int (iI (a : Int))), some (.int (iI (b : Int))), some (.int (iI y)), some (.int (iI (i : Int))), none, some (.long (lI (S 31 ((8 * a) + 1)))), none, some (.long (lI (S 31 ((8 * b) + 1)))), none]) (by simp [lsw]) ?_
              exact tail (by omega) (S 31 ((8 * a) + 1)) (S 31 ((8 * b) + 1)) (by omega) (by omega) (by rw [show S 36 (12 * l + i) = 111 from by omega]; show (S 31 (8 * a + 1)) = S 31 ((8 * a) + 1); first | rfl | omega) (by rw [show S 36 (12 * l + i) = 111 from by omega]; show (S 31 (8 * b + 1)) = S 31 ((8 * b) + 1); first | rfl | omega)
          · refine T.aload_n dX9_compare_137 rfl ?_
            refine T.mget (v := rf E 31 0 0) dX9_compare_138 fo_X9_7 ok29 rfl rfl ?_
            refine T.bipush dX9_compare_141 ?_
            refine T.iload_n dX9_compare_143 rfl ?_
            refine T.imul dX9_compare_144 ?_
            refine T.iconst dX9_compare_145 ?_
            refine T.iadd dX9_compare_146 ?_
            refine T.aI (z := S 31 ((8 * a) + 5)) (x := (8 * a) + 5) dX9_compare_147 ok31 (fun _ => rfl) (by omega) (by omega) (wrM_c rfl) ?_
            have q11 : -1 ≤ S 31 ((8 * a) + 5) ∧ S 31 ((8 * a) + 5) ≤ 9999 := hS 31 ((8 * a) + 5) rfl
            refine T.if_ge 170 dX9_compare_148 (by unfold rg; omega) (fun c12 => ?_) (fun c12 => ?_)
            · refine T.lconst1 dX9_compare_170 ?_
              refine T.lstore (ls' := [some (rf E 29 0 0), some (.int (iI (l : Int))), some (.int (iI (a : Int))), some (.int (iI (b : Int))), some (.int (iI y)), some (.int (iI (i : Int))), some (.int (iI (S 36 ((12 * l) + i)))), some (.long (lI 1)), none, some (.long (lI 0)), none]) dX9_compare_171 rfl ?_
              refine T.aload_n dX9_compare_173 rfl ?_
              refine T.mget (v := rf E 31 0 0) dX9_compare_174 fo_X9_7 ok29 rfl rfl ?_
              refine T.bipush dX9_compare_177 ?_
              refine T.iload_n dX9_compare_179 rfl ?_
              refine T.imul dX9_compare_180 ?_
              refine T.iconst dX9_compare_181 ?_
              refine T.iadd dX9_compare_182 ?_
              refine T.aI (z := S 31 ((8 * b) + 5)) (x := (8 * b) + 5) dX9_compare_183 ok31 (fun _ => rfl) (by omega) (by omega) (wrM_c rfl) ?_
              have q13 : -1 ≤ S 31 ((8 * b) + 5) ∧ S 31 ((8 * b) + 5) ≤ 9999 := hS 31 ((8 * b) + 5) rfl
              refine T.if_ge 206 dX9_compare_184 (by unfold rg; omega) (fun c14 => ?_) (fun c14 => ?_)
              · refine T.lconst1 dX9_compare_206 ?_
                refine T.lstore (ls' := [some (rf E 29 0 0), some (.int (iI (l : Int))), some (.int (iI (a : Int))), some (.int (iI (b : Int))), some (.int (iI y)), some (.int (iI (i : Int))), some (.int (iI (S 36 ((12 * l) + i)))), some (.long (lI 1)), none, some (.long (lI 1)), none]) dX9_compare_207 rfl ?_
                refine T.goto 273 dX9_compare_209 ?_
                refine T.fgt (ls' := [some (rf E 29 0 0), some (.int (iI (l : Int))), some (.int (iI (a : Int))), some (.int (iI (b : Int))), some (.int (iI y)), some (.int (iI (i : Int))), none, some (.long (lI 1)), none, some (.long (lI 1)), none]) (by simp [lsw]) ?_
                exact tail (by omega) (1) (1) (by omega) (by omega) (by rw [show S 36 (12 * l + i) = 117 from by omega]; show (if S 31 (8 * a + 5) < 0 ∧ S 31 (8 * a + 6) = 0 then 0 else 1) = 1; split <;> omega) (by rw [show S 36 (12 * l + i) = 117 from by omega]; show (if S 31 (8 * b + 5) < 0 ∧ S 31 (8 * b + 6) = 0 then 0 else 1) = 1; split <;> omega)
              · refine T.aload_n dX9_compare_187 rfl ?_
                refine T.mget (v := rf E 31 0 0) dX9_compare_188 fo_X9_7 ok29 rfl rfl ?_
                refine T.bipush dX9_compare_191 ?_
                refine T.iload_n dX9_compare_193 rfl ?_
                refine T.imul dX9_compare_194 ?_
                refine T.bipush dX9_compare_195 ?_
                refine T.iadd dX9_compare_197 ?_
                refine T.aI (z := S 31 ((8 * b) + 6)) (x := (8 * b) + 6) dX9_compare_198 ok31 (fun _ => rfl) (by omega) (by omega) (wrM_c rfl) ?_
                have q15 : -1 ≤ S 31 ((8 * b) + 6) ∧ S 31 ((8 * b) + 6) ≤ 9999 := hS 31 ((8 * b) + 6) rfl
                refine T.if_ne 206 dX9_compare_199 (by unfold rg; omega) (fun c16 => ?_) (fun c16 => ?_)
                · refine T.lconst1 dX9_compare_206 ?_
                  refine T.lstore (ls' := [some (rf E 29 0 0), some (.int (iI (l : Int))), some (.int (iI (a : Int))), some (.int (iI (b : Int))), some (.int (iI y)), some (.int (iI (i : Int))), some (.int (iI (S 36 ((12 * l) + i)))), some (.long (lI 1)), none, some (.long (lI 1)), none]) dX9_compare_207 rfl ?_
                  refine T.goto 273 dX9_compare_209 ?_
                  refine T.fgt (ls' := [some (rf E 29 0 0), some (.int (iI (l : Int))), some (.int (iI (a : Int))), some (.int (iI (b : Int))), some (.int (iI y)), some (.int (iI (i : Int))), none, some (.long (lI 1)), none, some (.long (lI 1)), none]) (by simp [lsw]) ?_
                  exact tail (by omega) (1) (1) (by omega) (by omega) (by rw [show S 36 (12 * l + i) = 117 from by omega]; show (if S 31 (8 * a + 5) < 0 ∧ S 31 (8 * a + 6) = 0 then 0 else 1) = 1; split <;> omega) (by rw [show S 36 (12 * l + i) = 117 from by omega]; show (if S 31 (8 * b + 5) < 0 ∧ S 31 (8 * b + 6) = 0 then 0 else 1) = 1; split <;> omega)
                · refine T.lconst0 dX9_compare_202 ?_
                  refine T.goto 207 dX9_compare_203 ?_
                  refine T.lstore (ls' := [some (rf E 29 0 0), some (.int (iI (l : Int))), some (.int (iI (a : Int))), some (.int (iI (b : Int))), some (.int (iI y)), some (.int (iI (i : Int))), some (.int (iI (S 36 ((12 * l) + i)))), some (.long (lI 1)), none, some (.long (lI 0)), none]) dX9_compare_207 rfl ?_
                  refine T.goto 273 dX9_compare_209 ?_
                  refine T.fgt (ls' := [some (rf E 29 0 0), some (.int (iI (l : Int))), some (.int (iI (a : Int))), some (.int (iI (b : Int))), some (.int (iI y)), some (.int (iI (i : Int))), none, some (.long (lI 1)), none, some (.long (lI 0)), none]) (by simp [lsw]) ?_
                  exact tail (by omega) (1) (0) (by omega) (by omega) (by rw [show S 36 (12 * l + i) = 117 from by omega]; show (if S 31 (8 * a + 5) < 0 ∧ S 31 (8 * a + 6) = 0 then 0 else 1) = 1; split <;> omega) (by rw [show S 36 (12 * l + i) = 117 from by omega]; show (if S 31 (8 * b + 5) < 0 ∧ S 31 (8 * b + 6) = 0 then 0 else 1) = 0; split <;> omega)
            · refine T.aload_n dX9_compare_151 rfl ?_
              refine T.mget (v := rf E 31 0 0) dX9_compare_152 fo_X9_7 ok29 rfl rfl ?_
              refine T.bipush dX9_compare_155 ?_
              refine T.iload_n dX9_compare_157 rfl ?_
              refine T.imul dX9_compare_158 ?_
              refine T.bipush dX9_compare_159 ?_
              refine T.iadd dX9_compare_161 ?_
              refine T.aI (z := S 31 ((8 * a) + 6)) (x := (8 * a) + 6) dX9_compare_162 ok31 (fun _ => rfl) (by omega) (by omega) (wrM_c rfl) ?_
              have q17 : -1 ≤ S 31 ((8 * a) + 6) ∧ S 31 ((8 * a) + 6) ≤ 9999 := hS 31 ((8 * a) + 6) rfl
              refine T.if_ne 170 dX9_compare_163 (by unfold rg; omega) (fun c18 => ?_) (fun c18 => ?_)
              · refine T.lconst1 dX9_compare_170 ?_
                refine T.lstore (ls' := [some (rf E 29 0 0), some (.int (iI (l : Int))), some (.int (iI (a : Int))), some (.int (iI (b : Int))), some (.int (iI y)), some (.int (iI (i : Int))), some (.int (iI (S 36 ((12 * l) + i)))), some (.long (lI 1)), none, some (.long (lI 0)), none]) dX9_compare_171 rfl ?_
                refine T.aload_n dX9_compare_173 rfl ?_
                refine T.mget (v := rf E 31 0 0) dX9_compare_174 fo_X9_7 ok29 rfl rfl ?_
                refine T.bipush dX9_compare_177 ?_
                refine T.iload_n dX9_compare_179 rfl ?_
                refine T.imul dX9_compare_180 ?_
                refine T.iconst dX9_compare_181 ?_
                refine T.iadd dX9_compare_182 ?_
                refine T.aI (z := S 31 ((8 * b) + 5)) (x := (8 * b) + 5) dX9_compare_183 ok31 (fun _ => rfl) (by omega) (by omega) (wrM_c rfl) ?_
                have q19 : -1 ≤ S 31 ((8 * b) + 5) ∧ S 31 ((8 * b) + 5) ≤ 9999 := hS 31 ((8 * b) + 5) rfl
                refine T.if_ge 206 dX9_compare_184 (by unfold rg; omega) (fun c20 => ?_) (fun c20 => ?_)
                · refine T.lconst1 dX9_compare_206 ?_
                  refine T.lstore (ls' := [some (rf E 29 0 0), some (.int (iI (l : Int))), some (.int (iI (a : Int))), some (.int (iI (b : Int))), some (.int (iI y)), some (.int (iI (i : Int))), some (.int (iI (S 36 ((12 * l) + i)))), some (.long (lI 1)), none, some (.long (lI 1)), none]) dX9_compare_207 rfl ?_
                  refine T.goto 273 dX9_compare_209 ?_
                  refine T.fgt (ls' := [some (rf E 29 0 0), some (.int (iI (l : Int))), some (.int (iI (a : Int))), some (.int (iI (b : Int))), some (.int (iI y)), some (.int (iI (i : Int))), none, some (.long (lI 1)), none, some (.long (lI 1)), none]) (by simp [lsw]) ?_
                  exact tail (by omega) (1) (1) (by omega) (by omega) (by rw [show S 36 (12 * l + i) = 117 from by omega]; show (if S 31 (8 * a + 5) < 0 ∧ S 31 (8 * a + 6) = 0 then 0 else 1) = 1; split <;> omega) (by rw [show S 36 (12 * l + i) = 117 from by omega]; show (if S 31 (8 * b + 5) < 0 ∧ S 31 (8 * b + 6) = 0 then 0 else 1) = 1; split <;> omega)
                · refine T.aload_n dX9_compare_187 rfl ?_
                  refine T.mget (v := rf E 31 0 0) dX9_compare_188 fo_X9_7 ok29 rfl rfl ?_
                  refine T.bipush dX9_compare_191 ?_
                  refine T.iload_n dX9_compare_193 rfl ?_
                  refine T.imul dX9_compare_194 ?_
                  refine T.bipush dX9_compare_195 ?_
                  refine T.iadd dX9_compare_197 ?_
                  refine T.aI (z := S 31 ((8 * b) + 6)) (x := (8 * b) + 6) dX9_compare_198 ok31 (fun _ => rfl) (by omega) (by omega) (wrM_c rfl) ?_
                  have q21 : -1 ≤ S 31 ((8 * b) + 6) ∧ S 31 ((8 * b) + 6) ≤ 9999 := hS 31 ((8 * b) + 6) rfl
                  refine T.if_ne 206 dX9_compare_199 (by unfold rg; omega) (fun c22 => ?_) (fun c22 => ?_)
                  · refine T.lconst1 dX9_compare_206 ?_
                    refine T.lstore (ls' := [some (rf E 29 0 0), some (.int (iI (l : Int))), some (.int (iI (a : Int))), some (.int (iI (b : Int))), some (.int (iI y)), some (.int (iI (i : Int))), some (.int (iI (S 36 ((12 * l) + i)))), some (.long (lI 1)), none, some (.long (lI 1)), none]) dX9_compare_207 rfl ?_
                    refine T.goto 273 dX9_compare_209 ?_
                    refine T.fgt (ls' := [some (rf E 29 0 0), some (.int (iI (l : Int))), some (.int (iI (a : Int))), some (.int (iI (b : Int))), some (.int (iI y)), some (.int (iI (i : Int))), none, some (.long (lI 1)), none, some (.long (lI 1)), none]) (by simp [lsw]) ?_
                    exact tail (by omega) (1) (1) (by omega) (by omega) (by rw [show S 36 (12 * l + i) = 117 from by omega]; show (if S 31 (8 * a + 5) < 0 ∧ S 31 (8 * a + 6) = 0 then 0 else 1) = 1; split <;> omega) (by rw [show S 36 (12 * l + i) = 117 from by omega]; show (if S 31 (8 * b + 5) < 0 ∧ S 31 (8 * b + 6) = 0 then 0 else 1) = 1; split <;> omega)
                  · refine T.lconst0 dX9_compare_202 ?_
                    refine T.goto 207 dX9_compare_203 ?_
                    refine T.lstore (ls' := [some (rf E 29 0 0), some (.int (iI (l : Int))), some (.int (iI (a : Int))), some (.int (iI (b : Int))), some (.int (iI y)), some (.int (iI (i : Int))), some (.int (iI (S 36 ((12 * l) + i)))), some (.long (lI 1)), none, some (.long (lI 0)), none]) dX9_compare_207 rfl ?_
                    refine T.goto 273 dX9_compare_209 ?_
                    refine T.fgt (ls' := [some (rf E 29 0 0), some (.int (iI (l : Int))), some (.int (iI (a : Int))), some (.int (iI (b : Int))), some (.int (iI y)), some (.int (iI (i : Int))), none, some (.long (lI 1)), none, some (.long (lI 0)), none]) (by simp [lsw]) ?_
                    exact tail (by omega) (1) (0) (by omega) (by omega) (by rw [show S 36 (12 * l + i) = 117 from by omega]; show (if S 31 (8 * a + 5) < 0 ∧ S 31 (8 * a + 6) = 0 then 0 else 1) = 1; split <;> omega) (by rw [show S 36 (12 * l + i) = 117 from by omega]; show (if S 31 (8 * b + 5) < 0 ∧ S 31 (8 * b + 6) = 0 then 0 else 1) = 0; split <;> omega)
              · refine T.lconst0 dX9_compare_166 ?_
                refine T.goto 171 dX9_compare_167 ?_
                refine T.lstore (ls' := [some (rf E 29 0 0), some (.int (iI (l : Int))), some (.int (iI (a : Int))), some (.int (iI (b : Int))), some (.int (iI y)), some (.int (iI (i : Int))), some (.int (iI (S 36 ((12 * l) + i)))), some (.long (lI 0)), none, some (.long (lI 0)), none]) dX9_compare_171 rfl ?_
                refine T.aload_n dX9_compare_173 rfl ?_
                refine T.mget (v := rf E 31 0 0) dX9_compare_174 fo_X9_7 ok29 rfl rfl ?_
                refine T.bipush dX9_compare_177 ?_
                refine T.iload_n dX9_compare_179 rfl ?_
                refine T.imul dX9_compare_180 ?_
                refine T.iconst dX9_compare_181 ?_
                refine T.iadd dX9_compare_182 ?_
                refine T.aI (z := S 31 ((8 * b) + 5)) (x := (8 * b) + 5) dX9_compare_183 ok31 (fun _ => rfl) (by omega) (by omega) (wrM_c rfl) ?_
                have q23 : -1 ≤ S 31 ((8 * b) + 5) ∧ S 31 ((8 * b) + 5) ≤ 9999 := hS 31 ((8 * b) + 5) rfl
                refine T.if_ge 206 dX9_compare_184 (by unfold rg; omega) (fun c24 => ?_) (fun c24 => ?_)
                · refine T.lconst1 dX9_compare_206 ?_
                  refine T.lstore (ls' := [some (rf E 29 0 0), some (.int (iI (l : Int))), some (.int (iI (a : Int))), some (.int (iI (b : Int))), some (.int (iI y)), some (.int (iI (i : Int))), some (.int (iI (S 36 ((12 * l) + i)))), some (.long (lI 0)), none, some (.long (lI 1)), none]) dX9_compare_207 rfl ?_
                  refine T.goto 273 dX9_compare_209 ?_
                  refine T.fgt (ls' := [some (rf E 29 0 0), some (.int (iI (l : Int))), some (.int (iI (a : Int))), some (.int (iI (b : Int))), some (.int (iI y)), some (.int (iI (i : Int))), none, some (.long (lI 0)), none, some (.long (lI 1)), none]) (by simp [lsw]) ?_
                  exact tail (by omega) (0) (1) (by omega) (by omega) (by rw [show S 36 (12 * l + i) = 117 from by omega]; show (if S 31 (8 * a + 5) < 0 ∧ S 31 (8 * a + 6) = 0 then 0 else 1) = 0; split <;> omega) (by rw [show S 36 (12 * l + i) = 117 from by omega]; show (if S 31 (8 * b + 5) < 0 ∧ S 31 (8 * b + 6) = 0 then 0 else 1) = 1; split <;> omega)
                · refine T.aload_n dX9_compare_187 rfl ?_
                  refine T.mget (v := rf E 31 0 0) dX9_compare_188 fo_X9_7 ok29 rfl rfl ?_
                  refine T.bipush dX9_compare_191 ?_
                  refine T.iload_n dX9_compare_193 rfl ?_
                  refine T.imul dX9_compare_194 ?_
                  refine T.bipush dX9_compare_195 ?_
                  refine T.iadd dX9_compare_197 ?_
                  refine T.aI (z := S 31 ((8 * b) + 6)) (x := (8 * b) + 6) dX9_compare_198 ok31 (fun _ => rfl) (by omega) (by omega) (wrM_c rfl) ?_
                  have q25 : -1 ≤ S 31 ((8 * b) + 6) ∧ S 31 ((8 * b) + 6) ≤ 9999 := hS 31 ((8 * b) + 6) rfl
                  refine T.if_ne 206 dX9_compare_199 (by unfold rg; omega) (fun c26 => ?_) (fun c26 => ?_)
                  · refine T.lconst1 dX9_compare_206 ?_
                    refine T.lstore (ls' := [some (rf E 29 0 0), some (.int (iI (l : Int))), some (.int (iI (a : Int))), some (.int (iI (b : Int))), some (.int (iI y)), some (.int (iI (i : Int))), some (.int (iI (S 36 ((12 * l) + i)))), some (.long (lI 0)), none, some (.long (lI 1)), none]) dX9_compare_207 rfl ?_
                    refine T.goto 273 dX9_compare_209 ?_
                    refine T.fgt (ls' := [some (rf E 29 0 0), some (.int (iI (l : Int))), some (.int (iI (a : Int))), some (.int (iI (b : Int))), some (.int (iI y)), some (.int (iI (i : Int))), none, some (.long (lI 0)), none, some (.long (lI 1)), none]) (by simp [lsw]) ?_
                    exact tail (by omega) (0) (1) (by omega) (by omega) (by rw [show S 36 (12 * l + i) = 117 from by omega]; show (if S 31 (8 * a + 5) < 0 ∧ S 31 (8 * a + 6) = 0 then 0 else 1) = 0; split <;> omega) (by rw [show S 36 (12 * l + i) = 117 from by omega]; show (if S 31 (8 * b + 5) < 0 ∧ S 31 (8 * b + 6) = 0 then 0 else 1) = 1; split <;> omega)
                  · refine T.lconst0 dX9_compare_202 ?_
                    refine T.goto 207 dX9_compare_203 ?_
                    refine T.lstore (ls' := [some (rf E 29 0 0), some (.int (iI (l : Int))), some (.int (iI (a : Int))), some (.int (iI (b : Int))), some (.int (iI y)), some (.int (iI (i : Int))), some (.int (iI (S 36 ((12 * l) + i)))), some (.long (lI 0)), none, some (.long (lI 0)), none]) dX9_compare_207 rfl ?_
                    refine T.goto 273 dX9_compare_209 ?_
                    refine T.fgt (ls' := [some (rf E 29 0 0), some (.int (iI (l : Int))), some (.int (iI (a : Int))), some (.int (iI (b : Int))), some (.int (iI y)), some (.int (iI (i : Int))), none, some (.long (lI 0)), none, some (.long (lI 0)), none]) (by simp [lsw]) ?_
                    exact tail (by omega) (0) (0) (by omega) (by omega) (by rw [show S 36 (12 * l + i) = 117 from by omega]; show (if S 31 (8 * a + 5) < 0 ∧ S 31 (8 * a + 6) = 0 then 0 else 1) = 0; split <;> omega) (by rw [show S 36 (12 * l + i) = 117 from by omega]; show (if S 31 (8 * b + 5) < 0 ∧ S 31 (8 * b + 6) = 0 then 0 else 1) = 0; split <;> omega)
        · refine T.aload_n dX9_compare_97 rfl ?_
          refine T.mget (v := rf E 31 0 0) dX9_compare_98 fo_X9_7 ok29 rfl rfl ?_
          refine T.bipush dX9_compare_101 ?_
          refine T.iload_n dX9_compare_103 rfl ?_
          refine T.imul dX9_compare_104 ?_
          refine T.iconst dX9_compare_105 ?_
          refine T.iadd dX9_compare_106 ?_
          refine T.aI (z := S 31 ((8 * a) + 3)) (x := (8 * a) + 3) dX9_compare_107 ok31 (fun _ => rfl) (by omega) (by omega) (wrM_c rfl) ?_
          have q27 : -1 ≤ S 31 ((8 * a) + 3) ∧ S 31 ((8 * a) + 3) ≤ 9999 := hS 31 ((8 * a) + 3) rfl
          refine T.ineg dX9_compare_108 ?_
          refine T.i2l dX9_compare_109 (by unfold rg; omega) ?_
          refine T.lstore (ls' := [some (rf E 29 0 0), some (.int (iI (l : Int))), some (.int (iI (a : Int))), some (.int (iI (b : Int))), some (.int (iI y)), some (.int (iI (i : Int))), some (.int (iI (S 36 ((12 * l) + i)))), some (.long (lI (-(S 31 ((8 * a) + 3))))), none, some (.long (lI 0)), none]) dX9_compare_110 rfl ?_
          refine T.aload_n dX9_compare_112 rfl ?_
          refine T.mget (v := rf E 31 0 0) dX9_compare_113 fo_X9_7 ok29 rfl rfl ?_
          refine T.bipush dX9_compare_116 ?_
          refine T.iload_n dX9_compare_118 rfl ?_
          refine T.imul dX9_compare_119 ?_
          refine T.iconst dX9_compare_120 ?_
          refine T.iadd dX9_compare_121 ?_
          refine T.aI (z := S 31 ((8 * b) + 3)) (x := (8 * b) + 3) dX9_compare_122 ok31 (fun _ => rfl) (by omega) (by omega) (wrM_c rfl) ?_
          have q28 : -1 ≤ S 31 ((8 * b) + 3) ∧ S 31 ((8 * b) + 3) ≤ 9999 := hS 31 ((8 * b) + 3) rfl
          refine T.ineg dX9_compare_123 ?_
          refine T.i2l dX9_compare_124 (by unfold rg; omega) ?_
          refine T.lstore (ls' := [some (rf E 29 0 0), some (.int (iI (l : Int))), some (.int (iI (a : Int))), some (.int (iI (b : Int))), some (.int (iI y)), some (.int (iI (i : Int))), some (.int (iI (S 36 ((12 * l) + i)))), some (.long (lI (-(S 31 ((8 * a) + 3))))), none, some (.long (lI (-(S 31 ((8 * b) + 3))))), none]) dX9_compare_125 rfl ?_
          refine T.goto 273 dX9_compare_127 ?_
          refine T.fgt (ls' := [some (rf E 29 0 0), some (.int (iI (l : Int))), some (.int (iI (a : Int))), some (.int (iI (b : Int))), some (.int (iI y)), some (.int (iI (i : Int))), none, some (.long (lI (-(S 31 ((8 * a) + 3))))), none, some (.long (lI (-(S 31 ((8 * b) + 3))))), none]) (by simp [lsw]) ?_
          exact tail (by omega) (-(S 31 ((8 * a) + 3))) (-(S 31 ((8 * b) + 3))) (by omega) (by omega) (by rw [show S 36 (12 * l + i) = 104 from by omega]; show (- S 31 (8 * a + 3)) = -(S 31 ((8 * a) + 3)); first | rfl | omega) (by rw [show S 36 (12 * l + i) = 104 from by omega]; show (- S 31 (8 * b + 3)) = -(S 31 ((8 * b) + 3)); first | rfl | omega)
      · refine T.aload_n dX9_compare_41 rfl ?_
        refine T.mget (v := rf E 31 0 0) dX9_compare_42 fo_X9_7 ok29 rfl rfl ?_
        refine T.bipush dX9_compare_45 ?_
        refine T.iload_n dX9_compare_47 rfl ?_
        refine T.imul dX9_compare_48 ?_
        refine T.iconst dX9_compare_49 ?_
        refine T.iadd dX9_compare_50 ?_
        refine T.aI (z := S 31 ((8 * a) + 2)) (x := (8 * a) + 2) dX9_compare_51 ok31 (fun _ => rfl) (by omega) (by omega) (wrM_c rfl) ?_
        have q29 : -1 ≤ S 31 ((8 * a) + 2) ∧ S 31 ((8 * a) + 2) ≤ 9999 := hS 31 ((8 * a) + 2) rfl
        refine T.iload dX9_compare_52 rfl ?_
        refine T.icmp_gt 61 dX9_compare_54 (by unfold rg; omega) (by unfold rg; omega) (fun c30 => ?_) (fun c30 => ?_)
        · refine T.lconst1 dX9_compare_61 ?_
          refine T.lstore (ls' := [some (rf E 29 0 0), some (.int (iI (l : Int))), some (.int (iI (a : Int))), some (.int (iI (b : Int))), some (.int (iI y)), some (.int (iI (i : Int))), some (.int (iI (S 36 ((12 * l) + i)))), some (.long (lI 1)), none, some (.long (lI 0)), none]) dX9_compare_62 rfl ?_
          refine T.aload_n dX9_compare_64 rfl ?_
          refine T.mget (v := rf E 31 0 0) dX9_compare_65 fo_X9_7 ok29 rfl rfl ?_
          refine T.bipush dX9_compare_68 ?_
          refine T.iload_n dX9_compare_70 rfl ?_
          refine T.imul dX9_compare_71 ?_
          refine T.iconst dX9_compare_72 ?_
          refine T.iadd dX9_compare_73 ?_
          refine T.aI (z := S 31 ((8 * b) + 2)) (x := (8 * b) + 2) dX9_compare_74 ok31 (fun _ => rfl) (by omega) (by omega) (wrM_c rfl) ?_
          have q31 : -1 ≤ S 31 ((8 * b) + 2) ∧ S 31 ((8 * b) + 2) ≤ 9999 := hS 31 ((8 * b) + 2) rfl
          refine T.iload dX9_compare_75 rfl ?_
          refine T.icmp_gt 84 dX9_compare_77 (by unfold rg; omega) (by unfold rg; omega) (fun c32 => ?_) (fun c32 => ?_)
          · refine T.lconst1 dX9_compare_84 ?_
            refine T.lstore (ls' := [some (rf E 29 0 0), some (.int (iI (l : Int))), some (.int (iI (a : Int))), some (.int (iI (b : Int))), some (.int (iI y)), some (.int (iI (i : Int))), some (.int (iI (S 36 ((12 * l) + i)))), some (.long (lI 1)), none, some (.long (lI 1)), none]) dX9_compare_85 rfl ?_
            refine T.goto 273 dX9_compare_87 ?_
            refine T.fgt (ls' := [some (rf E 29 0 0), some (.int (iI (l : Int))), some (.int (iI (a : Int))), some (.int (iI (b : Int))), some (.int (iI y)), some (.int (iI (i : Int))), none, some (.long (lI 1)), none, some (.long (lI 1)), none]) (by simp [lsw]) ?_
            exact tail (by omega) (1) (1) (by omega) (by omega) (by rw [show S 36 (12 * l + i) = 100 from by omega]; show (if S 31 (8 * a + 2) ≤ y then 0 else 1) = 1; split <;> omega) (by rw [show S 36 (12 * l + i) = 100 from by omega]; show (if S 31 (8 * b + 2) ≤ y then 0 else 1) = 1; split <;> omega)
          · refine T.lconst0 dX9_compare_80 ?_
            refine T.goto 85 dX9_compare_81 ?_
            refine T.lstore (ls' := [some (rf E 29 0 0), some (.int (iI (l : Int))), some (.int (iI (a : Int))), some (.int (iI (b : Int))), some (.int (iI y)), some (.int (iI (i : Int))), some (.int (iI (S 36 ((12 * l) + i)))), some (.long (lI 1)), none, some (.long (lI 0)), none]) dX9_compare_85 rfl ?_
            refine T.goto 273 dX9_compare_87 ?_
            refine T.fgt (ls' := [some (rf E 29 0 0), some (.int (iI (l : Int))), some (.int (iI (a : Int))), some (.int (iI (b : Int))), some (.int (iI y)), some (.int (iI (i : Int))), none, some (.long (lI 1)), none, some (.long (lI 0)), none]) (by simp [lsw]) ?_
            exact tail (by omega) (1) (0) (by omega) (by omega) (by rw [show S 36 (12 * l + i) = 100 from by omega]; show (if S 31 (8 * a + 2) ≤ y then 0 else 1) = 1; split <;> omega) (by rw [show S 36 (12 * l + i) = 100 from by omega]; show (if S 31 (8 * b + 2) ≤ y then 0 else 1) = 0; split <;> omega)
        · refine T.lconst0 dX9_compare_57 ?_
          refine T.goto 62 dX9_compare_58 ?_
          refine T.lstore (ls' := [some (rf E 29 0 0), some (.int (iI (l : Int))), some (.int (iI (a : Int))), some (.int (iI (b : Int))), some (.int (iI y)), some (.int (iI (i : Int))), some (.int (iI (S 36 ((12 * l) + i)))), some (.long (lI 0)), none, some (.long (lI 0)), none]) dX9_compare_62 rfl ?_
          refine T.aload_n dX9_compare_64 rfl ?_
          refine T.mget (v := rf E 31 0 0) dX9_compare_65 fo_X9_7 ok29 rfl rfl ?_
          refine T.bipush dX9_compare_68 ?_
          refine T.iload_n dX9_compare_70 rfl ?_
          refine T.imul dX9_compare_71 ?_
          refine T.iconst dX9_compare_72 ?_
          refine T.iadd dX9_compare_73 ?_
          refine T.aI (z := S 31 ((8 * b) + 2)) (x := (8 * b) + 2) dX9_compare_74 ok31 (fun _ => rfl) (by omega) (by omega) (wrM_c rfl) ?_
          have q33 : -1 ≤ S 31 ((8 * b) + 2) ∧ S 31 ((8 * b) + 2) ≤ 9999 := hS 31 ((8 * b) + 2) rfl
          refine T.iload dX9_compare_75 rfl ?_
          refine T.icmp_gt 84 dX9_compare_77 (by unfold rg; omega) (by unfold rg; omega) (fun c34 => ?_) (fun c34 => ?_)
          · refine T.lconst1 dX9_compare_84 ?_
            refine T.lstore (ls' := [some (rf E 29 0 0), some (.int (iI (l : Int))), some (.int (iI (a : Int))), some (.int (iI (b : Int))), some (.int (iI y)), some (.int (iI (i : Int))), some (.int (iI (S 36 ((12 * l) + i)))), some (.long (lI 0)), none, some (.long (lI 1)), none]) dX9_compare_85 rfl ?_
            refine T.goto 273 dX9_compare_87 ?_
            refine T.fgt (ls' := [some (rf E 29 0 0), some (.int (iI (l : Int))), some (.int (iI (a : Int))), some (.int (iI (b : Int))), some (.int (iI y)), some (.int (iI (i : Int))), none, some (.long (lI 0)), none, some (.long (lI 1)), none]) (by simp [lsw]) ?_
            exact tail (by omega) (0) (1) (by omega) (by omega) (by rw [show S 36 (12 * l + i) = 100 from by omega]; show (if S 31 (8 * a + 2) ≤ y then 0 else 1) = 0; split <;> omega) (by rw [show S 36 (12 * l + i) = 100 from by omega]; show (if S 31 (8 * b + 2) ≤ y then 0 else 1) = 1; split <;> omega)
          · refine T.lconst0 dX9_compare_80 ?_
            refine T.goto 85 dX9_compare_81 ?_
            refine T.lstore (ls' := [some (rf E 29 0 0), some (.int (iI (l : Int))), some (.int (iI (a : Int))), some (.int (iI (b : Int))), some (.int (iI y)), some (.int (iI (i : Int))), some (.int (iI (S 36 ((12 * l) + i)))), some (.long (lI 0)), none, some (.long (lI 0)), none]) dX9_compare_85 rfl ?_
            refine T.goto 273 dX9_compare_87 ?_
            refine T.fgt (ls' := [some (rf E 29 0 0), some (.int (iI (l : Int))), some (.int (iI (a : Int))), some (.int (iI (b : Int))), some (.int (iI y)), some (.int (iI (i : Int))), none, some (.long (lI 0)), none, some (.long (lI 0)), none]) (by simp [lsw]) ?_
            exact tail (by omega) (0) (0) (by omega) (by omega) (by rw [show S 36 (12 * l + i) = 100 from by omega]; show (if S 31 (8 * a + 2) ≤ y then 0 else 1) = 0; split <;> omega) (by rw [show S 36 (12 * l + i) = 100 from by omega]; show (if S 31 (8 * b + 2) ≤ y then 0 else 1) = 0; split <;> omega)
set_option maxHeartbeats 4000000 in
set_option maxRecDepth 100000 in
theorem n_cmp (E : Ev) (m : Mem) (S : PS) (l a b : Nat) (y : Int) (hS : InvS kM S) (hl : l < 2) (ha : a < 8) (hb : b < 8) (hy : 0 ≤ y ∧ y ≤ 299) : CT E 2 mX9_compare [rf E 29 0 0, .int (iI (l : Int)), .int (iI (a : Int)), .int (iI (b : Int)), .int (iI y)] (hp E (wrM m S)) (some (.int (iI (cmM S l y a b)))) (hp E (wrM m S)) := by
  refine CT.go okX9_compare (Nat.le_of_ble_eq_true rfl) ?_
  show T E 2 mX9_compare 0 [some (rf E 29 0 0), some (.int (iI (l : Int))), some (.int (iI (a : Int))), some (.int (iI (b : Int))), some (.int (iI y)), none, none, none, none, none, none] [] (hp E (wrM m S)) _
  have hn8 : 0 ≤ S 37 l ∧ S 37 l ≤ 12 := hS 37 l rfl
  refine T.iconst dX9_compare_0 ?_
  refine T.istore (ls' := [some (rf E 29 0 0), some (.int (iI (l : Int))), some (.int (iI (a : Int))), some (.int (iI (b : Int))), some (.int (iI y)), some (.int (iI 0)), none, none, none, none, none]) dX9_compare_1 rfl ?_
  exact n_cmp_lp E m S l a b y hS hl ha hb hy _ (Int.toNat_of_nonneg hn8.1).symm _ 0 rfl (Nat.zero_le _) rfl
def okM (S : PS) (l d : Nat) : Bool := decide (0 < S 39 d + S 40 d) && !(decide (hasM S l 120) && decide (S 46 d ≠ 0))
def orM (S : PS) (l : Nat) (y : Int) : Nat × (Nat → Int) := ordL (okM S l) (cmM S l y) (S 47) (S 29 0).toNat
set_option maxHeartbeats 4000000 in
set_option maxRecDepth 100000 in
theorem n_ord_in (E : Ev) (m : Mem) (S : PS) (l : Nat) (y : Int) (hS : InvS kM S) (hl : l < 2) (hy : 0 ≤ y ∧ y ≤ 299) (n d : Nat) (hd : d < 8) (Q : Option Value → Hp → Prop) : ∀ (p : Nat) (o : Nat → Int), p ≤ n → n ≤ 7 → (∀ x, 0 ≤ o x ∧ o x ≤ 7) → InvS kM (setT S 47 o) → T E 3 mX9_findOrder 5 [some (rf E 29 0 0), some (.int (iI (l : Int))), some (.int (iI y)), some (.int (iI ((n : Int) + 1))), some (.int (iI ((d : Int) + 1))), none] [] (hp E (wrM m (setT S 47 (insF (cmM S l y) o d p)))) Q → T E 3 mX9_findOrder 48 [some (rf E 29 0 0), some (.int (iI (l : Int))), some (.int (iI y)), some (.int (iI (n : Int))), some (.int (iI (d : Int))), some (.int (iI (p : Int)))] [] (hp E (wrM m (setT S 47 o))) Q := by
  intro p
  induction p with
  | zero =>
    intro o hpn hn7 ho hD hK
    obtain ⟨D, hDe⟩ : ∃ D, D = setT S 47 o := ⟨_, rfl⟩
    rw [← hDe] at hD ⊢
    have e39 : D 39 = S 39 := by rw [hDe, setT_d (by decide)]
    have e40 : D 40 = S 40 := by rw [hDe, setT_d (by decide)]
    have e47 : D 47 = o := by rw [hDe, setT_k]
    have hcm : ∀ a b, cmM D l y a b = cmM S l y a b := fun a b => by rw [hDe]; rfl
    show T E 3 mX9_findOrder 48 [some (rf E 29 0 0), some (.int (iI (l : Int))), some (.int (iI y)), some (.int (iI (n : Int))), some (.int (iI (d : Int))), some (.int (iI 0))] [] (hp E (wrM m D)) Q
    refine T.iload dX9_findOrder_48 rfl ?_
    refine T.if_le 95 dX9_findOrder_50 (by unfold rg; omega) (fun c1 => ?_) (fun c1 => ?_)
    · refine T.aload_n dX9_findOrder_95 rfl ?_
      refine T.mget (v := rf E 47 0 0) dX9_findOrder_96 fo_X9_51 ok29 rfl rfl ?_
      refine T.iload dX9_findOrder_99 rfl ?_
      refine T.iload dX9_findOrder_101 rfl ?_
      refine T.nist (x := 0) dX9_findOrder_103 rfl ok47 (fun _ => rfl) rfl (by decide) ?_
      refine T.iinc (ls' := [some (rf E 29 0 0), some (.int (iI (l : Int))), some (.int (iI y)), some (.int (iI ((n : Int) + 1))), some (.int (iI (d : Int))), some (.int (iI 0))]) dX9_findOrder_104 rfl rfl ?_
      refine T.iinc (ls' := [some (rf E 29 0 0), some (.int (iI (l : Int))), some (.int (iI y)), some (.int (iI ((n : Int) + 1))), some (.int (iI ((d : Int) + 1))), some (.int (iI 0))]) dX9_findOrder_107 rfl rfl ?_
      refine T.goto 5 dX9_findOrder_110 ?_
      refine T.fgt (ls' := [some (rf E 29 0 0), some (.int (iI (l : Int))), some (.int (iI y)), some (.int (iI ((n : Int) + 1))), some (.int (iI ((d : Int) + 1))), none]) (by simp [lsw]) ?_
      rw [show upT D 47 0 (d : Int) = setT S 47 (insF (cmM S l y) o d 0) from by rw [hDe, upT_setT']; rfl]
      exact hK
    · exact absurd c1 (by omega)
  | succ q ih =>
    intro o hpn hn7 ho hD hK
    obtain ⟨D, hDe⟩ : ∃ D, D = setT S 47 o := ⟨_, rfl⟩
    rw [← hDe] at hD ⊢
    have e39 : D 39 = S 39 := by rw [hDe, setT_d (by decide)]
    have e40 : D 40 = S 40 := by rw [hDe, setT_d (by decide)]
    have e47 : D 47 = o := by rw [hDe, setT_k]
    have hcm : ∀ a b, cmM D l y a b = cmM S l y a b := fun a b => by rw [hDe]; rfl
    show T E 3 mX9_findOrder 48 [some (rf E 29 0 0), some (.int (iI (l : Int))), some (.int (iI y)), some (.int (iI (n : Int))), some (.int (iI (d : Int))), some (.int (iI ((q : Int) + 1)))] [] (hp E (wrM m D)) Q
    refine T.iload dX9_findOrder_48 rfl ?_
    refine T.if_le 95 dX9_findOrder_50 (by unfold rg; omega) (fun c1 => ?_) (fun c1 => ?_)
    · exact absurd c1 (by omega)
    · refine T.aload_n dX9_findOrder_53 rfl ?_
      refine T.iload_n dX9_findOrder_54 rfl ?_
      refine T.iload dX9_findOrder_55 rfl ?_
      refine T.aload_n dX9_findOrder_57 rfl ?_
      refine T.mget (v := rf E 47 0 0) dX9_findOrder_58 fo_X9_51 ok29 rfl rfl ?_
      refine T.iload dX9_findOrder_61 rfl ?_
      refine T.iconst dX9_findOrder_63 ?_
      refine T.isub dX9_findOrder_64 ?_
      refine T.aI (z := D 47 q) (x := q) dX9_findOrder_65 ok47 (fun _ => rfl) (by omega) (by omega) (wrM_c rfl) ?_
      have q2 : 0 ≤ D 47 q ∧ D 47 q ≤ 7 := hD 47 q rfl
      refine T.iload_n dX9_findOrder_66 rfl ?_
      refine T.cV1 (As := [.int (iI (l : Int)), .int (iI (d : Int)), .int (iI (D 47 q)), .int (iI y)]) (st := []) dX9_findOrder_67 lk_X9_145 (by have h0 := n_cmp E m D l d (D 47 q).toNat y hD hl (by omega) (by omega) hy; rw [hcm, show ((((D 47 q).toNat : Nat) : Int)) = D 47 q from by omega] at h0; exact h0) ok29 rfl rfl (by decide) rfl rfl (Nat.le_of_ble_eq_true rfl) ?_
      have hr : -1 ≤ cmM S l y d (D 47 q).toNat ∧ cmM S l y d (D 47 q).toNat ≤ 1 := cmpN_rg (bkM S) y (fun x => S 39 x + S 40 x) (fun k => S 36 (12 * l + k)) d (D 47 q).toNat (S 37 l).toNat
      refine T.if_ge 95 dX9_findOrder_70 (by unfold rg; omega) (fun c3 => ?_) (fun c3 => ?_)
      · refine T.aload_n dX9_findOrder_95 rfl ?_
        refine T.mget (v := rf E 47 0 0) dX9_findOrder_96 fo_X9_51 ok29 rfl rfl ?_
        refine T.iload dX9_findOrder_99 rfl ?_
        refine T.iload dX9_findOrder_101 rfl ?_
        refine T.nist (x := (q + 1)) dX9_findOrder_103 rfl ok47 (fun _ => rfl) (by omega) (by omega) ?_
        refine T.iinc (ls' := [some (rf E 29 0 0), some (.int (iI (l : Int))), some (.int (iI y)), some (.int (iI ((n : Int) + 1))), some (.int (iI (d : Int))), some (.int (iI ((q : Int) + 1)))]) dX9_findOrder_104 rfl rfl ?_
        refine T.iinc (ls' := [some (rf E 29 0 0), some (.int (iI (l : Int))), some (.int (iI y)), some (.int (iI ((n : Int) + 1))), some (.int (iI ((d : Int) + 1))), some (.int (iI ((q : Int) + 1)))]) dX9_findOrder_107 rfl rfl ?_
        refine T.goto 5 dX9_findOrder_110 ?_
        refine T.fgt (ls' := [some (rf E 29 0 0), some (.int (iI (l : Int))), some (.int (iI y)), some (.int (iI ((n : Int) + 1))), some (.int (iI ((d : Int) + 1))), none]) (by simp [lsw]) ?_
        rw [show upT D 47 (q + 1) (d : Int) = setT S 47 (insF (cmM S l y) o d (q + 1)) from by rw [hDe, upT_setT']; unfold insF; rw [if_neg (by rw [← e47]; show ¬ (cmM S l y d (D 47 q).toNat < 0); omega)]]
        exact hK
      · refine T.aload_n dX9_findOrder_73 rfl ?_
        refine T.mget (v := rf E 47 0 0) dX9_findOrder_74 fo_X9_51 ok29 rfl rfl ?_
        refine T.iload dX9_findOrder_77 rfl ?_
        refine T.aload_n dX9_findOrder_79 rfl ?_
        refine T.mget (v := rf E 47 0 0) dX9_findOrder_80 fo_X9_51 ok29 rfl rfl ?_
        refine T.iload dX9_findOrder_83 rfl ?_
        refine T.iconst dX9_findOrder_85 ?_
        refine T.isub dX9_findOrder_86 ?_
        refine T.aI (z := D 47 q) (x := q) dX9_findOrder_87 ok47 (fun _ => rfl) (by omega) (by omega) (wrM_c rfl) ?_
        refine T.nist (x := (q + 1)) dX9_findOrder_88 rfl ok47 (fun _ => rfl) (by omega) (by omega) ?_
        refine T.iinc (ls' := [some (rf E 29 0 0), some (.int (iI (l : Int))), some (.int (iI y)), some (.int (iI (n : Int))), some (.int (iI (d : Int))), some (.int (iI ((q : Int) + 1 + (-1))))]) dX9_findOrder_89 rfl rfl ?_
        refine T.goto 48 dX9_findOrder_92 ?_
        rw [show (q : Int) + 1 + (-1) = (q : Int) from by omega, show upT D 47 (q + 1) (D 47 q) = setT S 47 (upd1 o (q + 1) (o q)) from by rw [e47, hDe, upT_setT']]
        refine ih (upd1 o (q + 1) (o q)) (by omega) hn7 (fun x => by unfold upd1; split; exact ho q; exact ho x) ?_ ?_
        · rw [hDe] at hD
          exact hS.set (fun x => by unfold upd1; split; exact ho q; exact ho x)
        · rw [show insF (cmM S l y) o d (q + 1) = insF (cmM S l y) (upd1 o (q + 1) (o q)) d q from by conv => lhs; unfold insF; rw [if_pos (by rw [← e47]; show cmM S l y d (D 47 q).toNat < 0; omega)]] at hK
          exact hK
set_option maxHeartbeats 4000000 in
set_option maxRecDepth 100000 in
theorem n_ord_lp (E : Ev) (m : Mem) (S : PS) (l : Nat) (y : Int) (hS : InvS kM S) (hl : l < 2) (hy : 0 ≤ y ∧ y ≤ 299) (N : Nat) (hn : S 29 0 = N) : ∀ (k : Nat) (d n : Nat) (o : Nat → Int), N - d = k → d ≤ N → ordL (okM S l) (cmM S l y) (S 47) d = (n, o) → n ≤ d → (∀ x, 0 ≤ o x ∧ o x ≤ 7) → T E 3 mX9_findOrder 5 [some (rf E 29 0 0), some (.int (iI (l : Int))), some (.int (iI y)), some (.int (iI (n : Int))), some (.int (iI (d : Int))), none] [] (hp E (wrM m (setT S 47 o))) (fun r' h' => r' = some (.int (iI ((orM S l y).1 : Int))) ∧ h' = hp E (wrM m (setT S 47 (orM S l y).2))) := by
  have hn8 : 0 ≤ S 29 0 ∧ S 29 0 ≤ 8 := hS 29 0 rfl
  intro k
  induction k using Nat.strongRecOn with
  | ind k ih =>
    intro d n o hk hdn ho0 hnd ho
    obtain ⟨D, hDe⟩ : ∃ D, D = setT S 47 o := ⟨_, rfl⟩
    have hD : InvS kM (setT S 47 o) := hS.set (fun x => ho x)
    rw [← hDe] at hD ⊢
    have e39 : D 39 = S 39 := by rw [hDe, setT_d (by decide)]
    have e40 : D 40 = S 40 := by rw [hDe, setT_d (by decide)]
    have e47 : D 47 = o := by rw [hDe, setT_k]
    have hcm : ∀ a b, cmM D l y a b = cmM S l y a b := fun a b => by rw [hDe]; rfl
    have e46 : D 46 d = S 46 d := by rw [hDe, setT_d (by decide)]
    have e290 : D 29 0 = S 29 0 := by rw [hDe, setT_d (by decide)]
    have hh : hasM D l 120 ↔ hasM S l 120 := by rw [hDe]; exact Iff.rfl
    have b39 : 0 ≤ S 39 d ∧ S 39 d ≤ 99990000 := hS 39 d rfl
    have b40 : 0 ≤ S 40 d ∧ S 40 d ≤ 4000000000 := hS 40 d rfl
    have e46r : 0 ≤ S 46 d ∧ S 46 d ≤ 1 := hS 46 d rfl
    refine T.iload dX9_findOrder_5 rfl ?_
    refine T.aload_n dX9_findOrder_7 rfl ?_
    refine T.gI (z := D 29 0) dX9_findOrder_8 fo_X9_87 ok29 rfl rfl (wrM_c rfl) ?_
    have q1 : 0 ≤ D 29 0 ∧ D 29 0 ≤ 8 := hD 29 0 rfl
    refine T.icmp_ge 113 dX9_findOrder_11 (by unfold rg; omega) (by unfold rg; omega) (fun c2 => ?_) (fun c2 => ?_)
    · refine T.iload_n dX9_findOrder_113 rfl ?_
      exact T.iret dX9_findOrder_114 ⟨by rw [show orM S l y = (n, o) from by unfold orM; rw [show (S 29 0).toNat = d from by omega]; exact ho0], by rw [hDe, show orM S l y = (n, o) from by unfold orM; rw [show (S 29 0).toNat = d from by omega]; exact ho0]⟩
    · refine T.aload_n dX9_findOrder_14 rfl ?_
      refine T.iload dX9_findOrder_15 rfl ?_
      refine T.cV1 (As := [.int (iI (d : Int))]) (st := []) dX9_findOrder_17 lk_X9_137 (by have h0 := n_leftOf E m D d (by omega); rw [e39, e40] at h0; exact h0) ok29 rfl rfl (by decide) rfl rfl (Nat.le_of_ble_eq_true rfl) ?_
      refine T.lconst0 dX9_findOrder_20 ?_
      refine T.lcmp_le 107 dX9_findOrder_21 dX9_findOrder_22 (by unfold rl; omega) (by unfold rl; omega) (fun c3 => ?_) (fun c3 => ?_)
      · refine T.iinc (ls' := [some (rf E 29 0 0), some (.int (iI (l : Int))), some (.int (iI y)), some (.int (iI (n : Int))), some (.int (iI ((d : Int) + 1))), none]) dX9_findOrder_107 rfl rfl ?_
        refine T.goto 5 dX9_findOrder_110 ?_
        rw [hDe]
        exact ih (N - (d + 1)) (by omega) (d + 1) n o rfl (by omega) (by show (if (okM S l) d = true then _ else _) = _; rw [if_neg (by unfold okM; simp only [decide_eq_true_eq, Bool.and_eq_true, Bool.not_eq_true']; intro z; obtain ⟨z1, z2⟩ := z; first | omega | (rw [Bool.and_eq_false_iff] at z2; rcases z2 with z2 | z2 <;> simp at z2 <;> first | contradiction | omega | simp_all))]; exact ho0) (by omega) ho
      · refine T.aload_n dX9_findOrder_25 rfl ?_
        refine T.iload_n dX9_findOrder_26 rfl ?_
        refine T.bipush dX9_findOrder_27 ?_
        refine T.cV1 (As := [.int (iI (l : Int)), .int (iI 120)]) (st := []) dX9_findOrder_29 lk_X9_141 (by have h0 := n_has E m D l 120 hD hl (by decide); rw [bZ_iff hh] at h0; exact h0) ok29 rfl rfl (by decide) rfl rfl (Nat.le_of_ble_eq_true rfl) ?_
        refine T.ifB_eq 45 dX9_findOrder_32 (fun c4 => ?_) (fun c4 => ?_)
        · refine T.iload_n dX9_findOrder_45 rfl ?_
          refine T.istore (ls' := [some (rf E 29 0 0), some (.int (iI (l : Int))), some (.int (iI y)), some (.int (iI (n : Int))), some (.int (iI (d : Int))), some (.int (iI (n : Int)))]) dX9_findOrder_46 rfl ?_
          rw [hDe]
          refine n_ord_in E m S l y hS hl hy n d (by omega) _ n o (Nat.le_refl _) (by omega) ho (hS.set (fun x => ho x)) ?_
          exact ih (N - (d + 1)) (by omega) (d + 1) (n + 1) (insF (cmM S l y) o d n) rfl (by omega) (by show (if (okM S l) d = true then _ else _) = _; rw [if_pos (by unfold okM; simp only [decide_eq_true_eq, Bool.and_eq_true, Bool.not_eq_true']; refine ⟨by omega, ?_⟩; rw [Bool.and_eq_false_iff]; first | (left; simp; first | assumption | (simpa using ‹¬ hasM S l 120›)) | (right; simp; omega)), ho0]) (by omega) (insF_rg (by omega) n o ho)
        · refine T.aload_n dX9_findOrder_35 rfl ?_
          refine T.mget (v := rf E 46 0 0) dX9_findOrder_36 fo_X9_47 ok29 rfl rfl ?_
          refine T.iload dX9_findOrder_39 rfl ?_
          refine T.aZ (z := D 46 d) (x := d) dX9_findOrder_41 ok46 (fun _ => rfl) rfl (by omega) (wrM_c rfl) ?_
          have q5 : 0 ≤ D 46 d ∧ D 46 d ≤ 1 := hD 46 d rfl
          refine T.if_ne 107 dX9_findOrder_42 (by unfold rg; omega) (fun c6 => ?_) (fun c6 => ?_)
          · refine T.iinc (ls' := [some (rf E 29 0 0), some (.int (iI (l : Int))), some (.int (iI y)), some (.int (iI (n : Int))), some (.int (iI ((d : Int) + 1))), none]) dX9_findOrder_107 rfl rfl ?_
            refine T.goto 5 dX9_findOrder_110 ?_
            rw [hDe]
            exact ih (N - (d + 1)) (by omega) (d + 1) n o rfl (by omega) (by show (if (okM S l) d = true then _ else _) = _; rw [if_neg (by unfold okM; simp only [decide_eq_true_eq, Bool.and_eq_true, Bool.not_eq_true']; intro z; obtain ⟨z1, z2⟩ := z; first | omega | (rw [Bool.and_eq_false_iff] at z2; rcases z2 with z2 | z2 <;> simp at z2 <;> first | contradiction | omega | simp_all))]; exact ho0) (by omega) ho
          · refine T.iload_n dX9_findOrder_45 rfl ?_
            refine T.istore (ls' := [some (rf E 29 0 0), some (.int (iI (l : Int))), some (.int (iI y)), some (.int (iI (n : Int))), some (.int (iI (d : Int))), some (.int (iI (n : Int)))]) dX9_findOrder_46 rfl ?_
            rw [hDe]
            refine n_ord_in E m S l y hS hl hy n d (by omega) _ n o (Nat.le_refl _) (by omega) ho (hS.set (fun x => ho x)) ?_
            exact ih (N - (d + 1)) (by omega) (d + 1) (n + 1) (insF (cmM S l y) o d n) rfl (by omega) (by show (if (okM S l) d = true then _ else _) = _; rw [if_pos (by unfold okM; simp only [decide_eq_true_eq, Bool.and_eq_true, Bool.not_eq_true']; refine ⟨by omega, ?_⟩; rw [Bool.and_eq_false_iff]; first | (left; simp; first | assumption | (simpa using ‹¬ hasM S l 120›)) | (right; simp; omega)), ho0]) (by omega) (insF_rg (by omega) n o ho)
set_option maxHeartbeats 4000000 in
set_option maxRecDepth 100000 in
theorem n_order (E : Ev) (m : Mem) (S : PS) (l : Nat) (y : Int) (hS : InvS kM S) (hl : l < 2) (hy : 0 ≤ y ∧ y ≤ 299) : CT E 3 mX9_findOrder [rf E 29 0 0, .int (iI (l : Int)), .int (iI y)] (hp E (wrM m S)) (some (.int (iI ((orM S l y).1 : Int)))) (hp E (wrM m (setT S 47 (orM S l y).2))) := by
  refine CT.go okX9_findOrder (Nat.le_of_ble_eq_true rfl) ?_
  show T E 3 mX9_findOrder 0 [some (rf E 29 0 0), some (.int (iI (l : Int))), some (.int (iI y)), none, none, none] [] (hp E (wrM m S)) _
  have hn8 : 0 ≤ S 29 0 ∧ S 29 0 ≤ 8 := hS 29 0 rfl
  refine T.iconst dX9_findOrder_0 ?_
  refine T.istore_n (ls' := [some (rf E 29 0 0), some (.int (iI (l : Int))), some (.int (iI y)), some (.int (iI 0)), none, none]) dX9_findOrder_1 rfl ?_
  refine T.iconst dX9_findOrder_2 ?_
  refine T.istore (ls' := [some (rf E 29 0 0), some (.int (iI (l : Int))), some (.int (iI y)), some (.int (iI 0)), some (.int (iI 0)), none]) dX9_findOrder_3 rfl ?_
  have h0 := n_ord_lp E m S l y hS hl hy _ (Int.toNat_of_nonneg hn8.1).symm _ 0 0 (S 47) rfl (Nat.zero_le _) rfl (Nat.le_refl _) (fun x => hS 47 x rfl)
  rw [setT_self] at h0
  exact h0
