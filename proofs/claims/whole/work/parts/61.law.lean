abbrev mL_law : MI := (yL_law, cL_law, 4, some .boolean)
def SX (E : Ev) (sb L : Nat) (xs : Nat → Int32) (s : State) : Prop := va_X sb L xs s s.heap ∧ sb < s.heap.size ∧ sb < E.2.2.1
section SCR
variable {E : Ev} {d : Nat} {M : MI} {pc : Nat} {ls : List (Option Value)} {st : List Value} {h : Hp} {Q : Option Value → Hp → Prop} {sb L : Nat} {xs : Nat → Int32}
theorem T.sld {j : Nat} {x : Int} (hd : decode M.2.1 pc = .ok (.iaload, 1)) (hX : ∀ s, E.2.2.2.2 s → SX E sb L xs s) (hi : x = j) (hj : j < L ∧ L ≤ 3584) (kt : T E d M (pc + 1) ls (.int (xs j) :: st) h Q) : T E d M pc ls (.int (iI x) :: .ref sb :: st) h Q := by
  refine T.pl ?_ kt
  intro p e R s m args below meth c hC hf hl2 H lsA locs cells slots Q hP hS hL hcl hsl hz2 kk
  obtain ⟨hx, hb, hml, hown, hts, hrt, hlk, hnm, hK, hro, hB, hRS⟩ := hC
  obtain ⟨h1, h2, h3⟩ := hX s hro
  refine va_sld hx hb h1 h2 (by unfold Aa; omega) hS (iI_in hi hj.1 (by omega)) hd ?_
  rw [iI_clamp hi (by omega)]
  exact kk _ hL
theorem T.slen (hd : decode M.2.1 pc = .ok (.arraylength, 1)) (hX : ∀ s, E.2.2.2.2 s → SX E sb L xs s) (kt : T E d M (pc + 1) ls (.int (iI (L : Int)) :: st) h Q) : T E d M pc ls (.ref sb :: st) h Q := by
  refine T.pl ?_ kt
  intro p e R s m args below meth c hC hf hl2 H lsA locs cells slots Q hP hS hL hcl hsl hz2 kk
  obtain ⟨hx, hb, hml, hown, hts, hrt, hlk, hnm, hK, hro, hB, hRS⟩ := hC
  obtain ⟨h1, h2, h3⟩ := hX s hro
  have h0 := kk _ hL
  rw [show iI (L : Int) = Int32.ofNat L from by unfold iI; exact Int32.ofInt_eq_ofNat] at h0
  exact va_slen hx hb h1 h2 (by unfold Aa; omega) hS hd h0
theorem T.icmpE {x y : Int} {off : Int} (tgt : Nat) (hd : decode M.2.1 pc = .ok (.if_icmp .eq off, 3)) (hq : x = y) (kt : T E d M tgt ls st h Q) (ht : (pc : Int) + off = (tgt : Int) := by decide) : T E d M pc ls (.int (iI y) :: .int (iI x) :: st) h Q := by
  refine T.pl ?_ kt
  intro p e R s m args below meth c hC hf hl H lsA locs cells slots Q hP hS hL hcl hsl hz kk
  obtain ⟨hx, hb, hml, hown, hts, hrt, hlk, hnm, hK, hro, hB, hRS⟩ := hC
  exact lv_icmp_eq hx hb hd ht (fun _ => kk _ hL) (fun z => absurd (congrArg iI hq) z)
theorem T.lcmpE {x y : Int} {off : Int} (tgt : Nat) (hd : decode M.2.1 pc = .ok (.lcmp, 1)) (hd2 : decode M.2.1 (pc + 1) = .ok (.ifCond .eq off, 3)) (hq : x = y) (kt : T E d M tgt ls st h Q) (ht : ((pc + 1 : Nat) : Int) + off = (tgt : Int) := by decide) : T E d M pc ls (.long (lI y) :: .long (lI x) :: st) h Q := by
  subst hq
  rw [← lI_of (lI x)]
  exact T.lcmp_eq tgt hd hd2 (rl_of _) (rl_of _) (fun _ => kt) (fun z => absurd rfl z) ht
end SCR
theorem and31 (x : Int32) : 0 ≤ (x &&& iI 31).toInt ∧ (x &&& iI 31).toInt ≤ 31 := by
  have h1 : (x &&& iI 31).toBitVec.toNat ≤ 31 := by
    rw [Int32.toBitVec_and, BitVec.toNat_and]
    exact Nat.and_le_right
  have h2 : (x &&& iI 31).toInt = ((x &&& iI 31).toBitVec.toNat : Int) := BitVec.toInt_eq_toNat_of_lt (by omega)
  omega
set_option maxHeartbeats 4000000 in
set_option maxRecDepth 100000 in
theorem L_debt (hS0 : Sim_debt) (E : Ev) (ad : AD) (hR : ∀ s, E.2.2.2.2 s → RO E.2.2.1 ad s) (sb L : Nat) (xs : Nat → Int32) (hX : ∀ s, E.2.2.2.2 s → SX E sb L xs s) (hL : L ≤ 3584) (N : Nat) (hN : N = 300) (i : Nat) (hi : i + 7 ≤ L) (m : Mem) (hg : Good m) (Q : Option Value → Hp → Prop) (hK : ∀ m', Good m' → T E 20 mL_law 1424 [some (.ref sb), some (rf E 0 0 0), some (rf E 29 0 0), some (.int (iI (i : Int)))] [] (hp E m') Q) : T E 20 mL_law 172 [some (.ref sb), some (rf E 0 0 0), some (rf E 29 0 0), some (.int (iI (i : Int)))] [] (hp E m) Q := by
  have hs := hS0 (xs (i + 1)).toInt (xs (i + 2)).toInt (xs (i + 3)).toInt (xs (i + 4)).toInt (rg_of _) (rg_of _) (rg_of _) (rg_of _) m hg
  refine T.aload_n dL_law_172 rfl ?_
  refine T.aload_n dL_law_173 rfl ?_
  refine T.iload_n dL_law_174 rfl ?_
  refine T.iconst dL_law_175 ?_
  refine T.iadd dL_law_176 ?_
  refine T.sld (j := (i + 1)) dL_law_177 hX (by omega) (by omega) ?_
  refine T.topi (z := (xs ((i + 1))).toInt) (iI_of _).symm ?_
  refine T.aload_n dL_law_178 rfl ?_
  refine T.iload_n dL_law_179 rfl ?_
  refine T.iconst dL_law_180 ?_
  refine T.iadd dL_law_181 ?_
  refine T.sld (j := (i + 2)) dL_law_182 hX (by omega) (by omega) ?_
  refine T.topi (z := (xs ((i + 2))).toInt) (iI_of _).symm ?_
  refine T.aload_n dL_law_183 rfl ?_
  refine T.iload_n dL_law_184 rfl ?_
  refine T.iconst dL_law_185 ?_
  refine T.iadd dL_law_186 ?_
  refine T.sld (j := (i + 3)) dL_law_187 hX (by omega) (by omega) ?_
  refine T.topi (z := (xs ((i + 3))).toInt) (iI_of _).symm ?_
  refine T.aload_n dL_law_188 rfl ?_
  refine T.iload_n dL_law_189 rfl ?_
  refine T.iconst dL_law_190 ?_
  refine T.iadd dL_law_191 ?_
  refine T.sld (j := (i + 4)) dL_law_192 hX (by omega) (by omega) ?_
  refine T.topi (z := (xs ((i + 4))).toInt) (iI_of _).symm ?_
  refine T.cV1 (As := [.int (iI ((xs ((i + 1))).toInt)), .int (iI ((xs ((i + 2))).toInt)), .int (iI ((xs ((i + 3))).toInt)), .int (iI ((xs ((i + 4))).toInt))]) (st := []) dL_law_193 lk_L_13 (c_debt E m (xs (i + 1)).toInt (xs (i + 2)).toInt (xs (i + 3)).toInt (xs (i + 4)).toInt hg.1 (rg_of _) (rg_of _) (rg_of _) (rg_of _)) ok0 rfl rfl (by decide) rfl rfl (Nat.le_of_ble_eq_true rfl) ?_
  refine T.aload_n dL_law_196 rfl ?_
  refine T.aload_n dL_law_197 rfl ?_
  refine T.iload_n dL_law_198 rfl ?_
  refine T.iconst dL_law_199 ?_
  refine T.iadd dL_law_200 ?_
  refine T.sld (j := (i + 1)) dL_law_201 hX (by omega) (by omega) ?_
  refine T.topi (z := (xs ((i + 1))).toInt) (iI_of _).symm ?_
  refine T.aload_n dL_law_202 rfl ?_
  refine T.iload_n dL_law_203 rfl ?_
  refine T.iconst dL_law_204 ?_
  refine T.iadd dL_law_205 ?_
  refine T.sld (j := (i + 2)) dL_law_206 hX (by omega) (by omega) ?_
  refine T.topi (z := (xs ((i + 2))).toInt) (iI_of _).symm ?_
  refine T.aload_n dL_law_207 rfl ?_
  refine T.iload_n dL_law_208 rfl ?_
  refine T.iconst dL_law_209 ?_
  refine T.iadd dL_law_210 ?_
  refine T.sld (j := (i + 3)) dL_law_211 hX (by omega) (by omega) ?_
  refine T.topi (z := (xs ((i + 3))).toInt) (iI_of _).symm ?_
  refine T.aload_n dL_law_212 rfl ?_
  refine T.iload_n dL_law_213 rfl ?_
  refine T.iconst dL_law_214 ?_
  refine T.iadd dL_law_215 ?_
  refine T.sld (j := (i + 4)) dL_law_216 hX (by omega) (by omega) ?_
  refine T.topi (z := (xs ((i + 4))).toInt) (iI_of _).symm ?_
  refine T.cV1 (As := [.int (iI ((xs ((i + 1))).toInt)), .int (iI ((xs ((i + 2))).toInt)), .int (iI ((xs ((i + 3))).toInt)), .int (iI ((xs ((i + 4))).toInt))]) (st := [.int (iI (debtR m (xs (i + 1)).toInt (xs (i + 2)).toInt (xs (i + 3)).toInt (xs (i + 4)).toInt))]) dL_law_217 lk_L_17 (by have h0 := n_debt E (debtM m (xs (i + 1)).toInt (xs (i + 2)).toInt (xs (i + 3)).toInt (xs (i + 4)).toInt) (mv (debtM m (xs (i + 1)).toInt (xs (i + 2)).toInt (xs (i + 3)).toInt (xs (i + 4)).toInt)) (xs (i + 1)).toInt (xs (i + 2)).toInt (xs (i + 3)).toInt (xs (i + 4)).toInt (fun k x _ => hs.1 k 0 0 x) (rg_of _) (rg_of _) (rg_of _) (rg_of _); rw [wrM_self] at h0; exact h0) ok29 rfl rfl (by decide) rfl rfl (Nat.le_of_ble_eq_true rfl) ?_
  refine T.icmpE 1424 dL_law_220 hs.2.2.1 ?_
  exact hK _ hs.2.2.2
set_option maxHeartbeats 4000000 in
set_option maxRecDepth 100000 in
theorem L_set (hS0 : Sim_set) (E : Ev) (ad : AD) (hR : ∀ s, E.2.2.2.2 s → RO E.2.2.1 ad s) (sb L : Nat) (xs : Nat → Int32) (hX : ∀ s, E.2.2.2.2 s → SX E sb L xs s) (hL : L ≤ 3584) (N : Nat) (hN : N = 300) (i : Nat) (hi : i + 7 ≤ L) (m : Mem) (hg : Good m) (Q : Option Value → Hp → Prop) (hK : ∀ m', Good m' → T E 20 mL_law 1424 [some (.ref sb), some (rf E 0 0 0), some (rf E 29 0 0), some (.int (iI (i : Int)))] [] (hp E m') Q) : T E 20 mL_law 225 [some (.ref sb), some (rf E 0 0 0), some (rf E 29 0 0), some (.int (iI (i : Int)))] [] (hp E m) Q := by
  have hs := hS0 (xs (i + 1)).toInt (xs (i + 2)).toInt (xs (i + 3)).toInt (rg_of _) (rg_of _) (rg_of _) m hg
  refine T.aload_n dL_law_225 rfl ?_
  refine T.aload_n dL_law_226 rfl ?_
  refine T.iload_n dL_law_227 rfl ?_
  refine T.iconst dL_law_228 ?_
  refine T.iadd dL_law_229 ?_
  refine T.sld (j := (i + 1)) dL_law_230 hX (by omega) (by omega) ?_
  refine T.topi (z := (xs ((i + 1))).toInt) (iI_of _).symm ?_
  refine T.aload_n dL_law_231 rfl ?_
  refine T.iload_n dL_law_232 rfl ?_
  refine T.iconst dL_law_233 ?_
  refine T.iadd dL_law_234 ?_
  refine T.sld (j := (i + 2)) dL_law_235 hX (by omega) (by omega) ?_
  refine T.topi (z := (xs ((i + 2))).toInt) (iI_of _).symm ?_
  refine T.aload_n dL_law_236 rfl ?_
  refine T.iload_n dL_law_237 rfl ?_
  refine T.iconst dL_law_238 ?_
  refine T.iadd dL_law_239 ?_
  refine T.sld (j := (i + 3)) dL_law_240 hX (by omega) (by omega) ?_
  refine T.topi (z := (xs ((i + 3))).toInt) (iI_of _).symm ?_
  refine T.cV1 (As := [.int (iI ((xs ((i + 1))).toInt)), .int (iI ((xs ((i + 2))).toInt)), .int (iI ((xs ((i + 3))).toInt))]) (st := []) dL_law_241 lk_L_18 (c_set E m ad hR (xs (i + 1)).toInt (xs (i + 2)).toInt (xs (i + 3)).toInt hg.1 (rg_of _) (rg_of _) (rg_of _)) ok0 rfl rfl (by decide) rfl rfl (Nat.le_of_ble_eq_true rfl) ?_
  refine T.aload_n dL_law_244 rfl ?_
  refine T.aload_n dL_law_245 rfl ?_
  refine T.iload_n dL_law_246 rfl ?_
  refine T.iconst dL_law_247 ?_
  refine T.iadd dL_law_248 ?_
  refine T.sld (j := (i + 1)) dL_law_249 hX (by omega) (by omega) ?_
  refine T.topi (z := (xs ((i + 1))).toInt) (iI_of _).symm ?_
  refine T.aload_n dL_law_250 rfl ?_
  refine T.iload_n dL_law_251 rfl ?_
  refine T.iconst dL_law_252 ?_
  refine T.iadd dL_law_253 ?_
  refine T.sld (j := (i + 2)) dL_law_254 hX (by omega) (by omega) ?_
  refine T.topi (z := (xs ((i + 2))).toInt) (iI_of _).symm ?_
  refine T.aload_n dL_law_255 rfl ?_
  refine T.iload_n dL_law_256 rfl ?_
  refine T.iconst dL_law_257 ?_
  refine T.iadd dL_law_258 ?_
  refine T.sld (j := (i + 3)) dL_law_259 hX (by omega) (by omega) ?_
  refine T.topi (z := (xs ((i + 3))).toInt) (iI_of _).symm ?_
  refine T.cV1 (As := [.int (iI ((xs ((i + 1))).toInt)), .int (iI ((xs ((i + 2))).toInt)), .int (iI ((xs ((i + 3))).toInt))]) (st := [.int (iI (setR m (xs (i + 1)).toInt (xs (i + 2)).toInt (xs (i + 3)).toInt))]) dL_law_260 lk_L_22 (by have h0 := n_set E (setM m (xs (i + 1)).toInt (xs (i + 2)).toInt (xs (i + 3)).toInt) (mv (setM m (xs (i + 1)).toInt (xs (i + 2)).toInt (xs (i + 3)).toInt)) (xs (i + 1)).toInt (xs (i + 2)).toInt (xs (i + 3)).toInt (fun k x _ => hs.1 k 0 0 x) (rg_of _) (rg_of _) (rg_of _); rw [wrM_self] at h0; exact h0) ok29 rfl rfl (by decide) rfl rfl (Nat.le_of_ble_eq_true rfl) ?_
  refine T.icmpE 1424 dL_law_263 hs.2.2.1 ?_
  exact hK _ hs.2.2.2
set_option maxHeartbeats 4000000 in
set_option maxRecDepth 100000 in
theorem L_pay (hS0 : Sim_pay) (E : Ev) (ad : AD) (hR : ∀ s, E.2.2.2.2 s → RO E.2.2.1 ad s) (sb L : Nat) (xs : Nat → Int32) (hX : ∀ s, E.2.2.2.2 s → SX E sb L xs s) (hL : L ≤ 3584) (N : Nat) (hN : N = 300) (i : Nat) (hi : i + 7 ≤ L) (m : Mem) (hg : Good m) (Q : Option Value → Hp → Prop) (hK : ∀ m', Good m' → T E 20 mL_law 1424 [some (.ref sb), some (rf E 0 0 0), some (rf E 29 0 0), some (.int (iI (i : Int)))] [] (hp E m') Q) : T E 20 mL_law 268 [some (.ref sb), some (rf E 0 0 0), some (rf E 29 0 0), some (.int (iI (i : Int)))] [] (hp E m) Q := by
  have hs := hS0 (xs (i + 1)).toInt (xs (i + 2)).toInt (rg_of _) (rg_of _) m hg
  refine T.aload_n dL_law_268 rfl ?_
  refine T.aload_n dL_law_269 rfl ?_
  refine T.iload_n dL_law_270 rfl ?_
  refine T.iconst dL_law_271 ?_
  refine T.iadd dL_law_272 ?_
  refine T.sld (j := (i + 1)) dL_law_273 hX (by omega) (by omega) ?_
  refine T.topi (z := (xs ((i + 1))).toInt) (iI_of _).symm ?_
  refine T.aload_n dL_law_274 rfl ?_
  refine T.iload_n dL_law_275 rfl ?_
  refine T.iconst dL_law_276 ?_
  refine T.iadd dL_law_277 ?_
  refine T.sld (j := (i + 2)) dL_law_278 hX (by omega) (by omega) ?_
  refine T.topi (z := (xs ((i + 2))).toInt) (iI_of _).symm ?_
  refine T.cV1 (As := [.int (iI ((xs ((i + 1))).toInt)), .int (iI ((xs ((i + 2))).toInt))]) (st := []) dL_law_279 lk_L_23 (c_pay E m (xs (i + 1)).toInt (xs (i + 2)).toInt hg.1 (rg_of _) (rg_of _)) ok0 rfl rfl (by decide) rfl rfl (Nat.le_of_ble_eq_true rfl) ?_
  refine T.aload_n dL_law_282 rfl ?_
  refine T.aload_n dL_law_283 rfl ?_
  refine T.iload_n dL_law_284 rfl ?_
  refine T.iconst dL_law_285 ?_
  refine T.iadd dL_law_286 ?_
  refine T.sld (j := (i + 1)) dL_law_287 hX (by omega) (by omega) ?_
  refine T.topi (z := (xs ((i + 1))).toInt) (iI_of _).symm ?_
  refine T.aload_n dL_law_288 rfl ?_
  refine T.iload_n dL_law_289 rfl ?_
  refine T.iconst dL_law_290 ?_
  refine T.iadd dL_law_291 ?_
  refine T.sld (j := (i + 2)) dL_law_292 hX (by omega) (by omega) ?_
  refine T.topi (z := (xs ((i + 2))).toInt) (iI_of _).symm ?_
  refine T.cV1 (As := [.int (iI ((xs ((i + 1))).toInt)), .int (iI ((xs ((i + 2))).toInt))]) (st := [.int (iI (payR m (xs (i + 1)).toInt (xs (i + 2)).toInt))]) dL_law_293 lk_L_27 (by have h0 := n_pay E (payM m (xs (i + 1)).toInt (xs (i + 2)).toInt) (mv (payM m (xs (i + 1)).toInt (xs (i + 2)).toInt)) (xs (i + 1)).toInt (xs (i + 2)).toInt (fun k x _ => hs.1 k 0 0 x) (rg_of _) (rg_of _); rw [wrM_self] at h0; exact h0) ok29 rfl rfl (by decide) rfl rfl (Nat.le_of_ble_eq_true rfl) ?_
  refine T.icmpE 1424 dL_law_296 hs.2.2.1 ?_
  exact hK _ hs.2.2.2
set_option maxHeartbeats 4000000 in
set_option maxRecDepth 100000 in
theorem L_pays (hS0 : Sim_pays) (E : Ev) (ad : AD) (hR : ∀ s, E.2.2.2.2 s → RO E.2.2.1 ad s) (sb L : Nat) (xs : Nat → Int32) (hX : ∀ s, E.2.2.2.2 s → SX E sb L xs s) (hL : L ≤ 3584) (N : Nat) (hN : N = 300) (i : Nat) (hi : i + 7 ≤ L) (m : Mem) (hg : Good m) (Q : Option Value → Hp → Prop) (hK : ∀ m', Good m' → T E 20 mL_law 1424 [some (.ref sb), some (rf E 0 0 0), some (rf E 29 0 0), some (.int (iI (i : Int)))] [] (hp E m') Q) : T E 20 mL_law 301 [some (.ref sb), some (rf E 0 0 0), some (rf E 29 0 0), some (.int (iI (i : Int)))] [] (hp E m) Q := by
  have hs := hS0 (xs (i + 1)).toInt (xs (i + 2)).toInt (xs (i + 3)).toInt (xs (i + 4)).toInt (rg_of _) (rg_of _) (rg_of _) (rg_of _) m hg
  refine T.aload_n dL_law_301 rfl ?_
  refine T.aload_n dL_law_302 rfl ?_
  refine T.iload_n dL_law_303 rfl ?_
  refine T.iconst dL_law_304 ?_
  refine T.iadd dL_law_305 ?_
  refine T.sld (j := (i + 1)) dL_law_306 hX (by omega) (by omega) ?_
  refine T.topi (z := (xs ((i + 1))).toInt) (iI_of _).symm ?_
  refine T.aload_n dL_law_307 rfl ?_
  refine T.iload_n dL_law_308 rfl ?_
  refine T.iconst dL_law_309 ?_
  refine T.iadd dL_law_310 ?_
  refine T.sld (j := (i + 2)) dL_law_311 hX (by omega) (by omega) ?_
  refine T.topi (z := (xs ((i + 2))).toInt) (iI_of _).symm ?_
  refine T.aload_n dL_law_312 rfl ?_
  refine T.iload_n dL_law_313 rfl ?_
  refine T.iconst dL_law_314 ?_
  refine T.iadd dL_law_315 ?_
  refine T.sld (j := (i + 3)) dL_law_316 hX (by omega) (by omega) ?_
  refine T.topi (z := (xs ((i + 3))).toInt) (iI_of _).symm ?_
  refine T.aload_n dL_law_317 rfl ?_
  refine T.iload_n dL_law_318 rfl ?_
  refine T.iconst dL_law_319 ?_
  refine T.iadd dL_law_320 ?_
  refine T.sld (j := (i + 4)) dL_law_321 hX (by omega) (by omega) ?_
  refine T.topi (z := (xs ((i + 4))).toInt) (iI_of _).symm ?_
  refine T.cV1 (As := [.int (iI ((xs ((i + 1))).toInt)), .int (iI ((xs ((i + 2))).toInt)), .int (iI ((xs ((i + 3))).toInt)), .int (iI ((xs ((i + 4))).toInt))]) (st := []) dL_law_322 lk_L_28 (c_pays E m (xs (i + 1)).toInt (xs (i + 2)).toInt (xs (i + 3)).toInt (xs (i + 4)).toInt hg.1 (rg_of _) (rg_of _) (rg_of _) (rg_of _)) ok0 rfl rfl (by decide) rfl rfl (Nat.le_of_ble_eq_true rfl) ?_
  refine T.aload_n dL_law_325 rfl ?_
  refine T.aload_n dL_law_326 rfl ?_
  refine T.iload_n dL_law_327 rfl ?_
  refine T.iconst dL_law_328 ?_
  refine T.iadd dL_law_329 ?_
  refine T.sld (j := (i + 1)) dL_law_330 hX (by omega) (by omega) ?_
  refine T.topi (z := (xs ((i + 1))).toInt) (iI_of _).symm ?_
  refine T.aload_n dL_law_331 rfl ?_
  refine T.iload_n dL_law_332 rfl ?_
  refine T.iconst dL_law_333 ?_
  refine T.iadd dL_law_334 ?_
  refine T.sld (j := (i + 2)) dL_law_335 hX (by omega) (by omega) ?_
  refine T.topi (z := (xs ((i + 2))).toInt) (iI_of _).symm ?_
  refine T.aload_n dL_law_336 rfl ?_
  refine T.iload_n dL_law_337 rfl ?_
  refine T.iconst dL_law_338 ?_
  refine T.iadd dL_law_339 ?_
  refine T.sld (j := (i + 3)) dL_law_340 hX (by omega) (by omega) ?_
  refine T.topi (z := (xs ((i + 3))).toInt) (iI_of _).symm ?_
  refine T.aload_n dL_law_341 rfl ?_
  refine T.iload_n dL_law_342 rfl ?_
  refine T.iconst dL_law_343 ?_
  refine T.iadd dL_law_344 ?_
  refine T.sld (j := (i + 4)) dL_law_345 hX (by omega) (by omega) ?_
  refine T.topi (z := (xs ((i + 4))).toInt) (iI_of _).symm ?_
  refine T.cV1 (As := [.int (iI ((xs ((i + 1))).toInt)), .int (iI ((xs ((i + 2))).toInt)), .int (iI ((xs ((i + 3))).toInt)), .int (iI ((xs ((i + 4))).toInt))]) (st := [.int (iI (paysR m (xs (i + 1)).toInt (xs (i + 2)).toInt (xs (i + 3)).toInt (xs (i + 4)).toInt))]) dL_law_346 lk_L_31 (by have h0 := n_pays E (paysM m (xs (i + 1)).toInt (xs (i + 2)).toInt (xs (i + 3)).toInt (xs (i + 4)).toInt) (mv (paysM m (xs (i + 1)).toInt (xs (i + 2)).toInt (xs (i + 3)).toInt (xs (i + 4)).toInt)) (xs (i + 1)).toInt (xs (i + 2)).toInt (xs (i + 3)).toInt (xs (i + 4)).toInt (fun k x _ => hs.1 k 0 0 x) (rg_of _) (rg_of _) (rg_of _) (rg_of _); rw [wrM_self] at h0; exact h0) ok29 rfl rfl (by decide) rfl rfl (Nat.le_of_ble_eq_true rfl) ?_
  refine T.icmpE 1424 dL_law_349 hs.2.2.1 ?_
  exact hK _ hs.2.2.2
set_option maxHeartbeats 4000000 in
set_option maxRecDepth 100000 in
theorem L_word (hS0 : Sim_word) (E : Ev) (ad : AD) (hR : ∀ s, E.2.2.2.2 s → RO E.2.2.1 ad s) (sb L : Nat) (xs : Nat → Int32) (hX : ∀ s, E.2.2.2.2 s → SX E sb L xs s) (hL : L ≤ 3584) (N : Nat) (hN : N = 300) (i : Nat) (hi : i + 7 ≤ L) (m : Mem) (hg : Good m) (Q : Option Value → Hp → Prop) (hK : ∀ m', Good m' → T E 20 mL_law 1424 [some (.ref sb), some (rf E 0 0 0), some (rf E 29 0 0), some (.int (iI (i : Int)))] [] (hp E m') Q) : T E 20 mL_law 354 [some (.ref sb), some (rf E 0 0 0), some (rf E 29 0 0), some (.int (iI (i : Int)))] [] (hp E m) Q := by
  have hs := hS0 (xs (i + 1)).toInt (xs (i + 2)).toInt (xs (i + 3)).toInt (rg_of _) (rg_of _) (rg_of _) m hg
  refine T.aload_n dL_law_354 rfl ?_
  refine T.aload_n dL_law_355 rfl ?_
  refine T.iload_n dL_law_356 rfl ?_
  refine T.iconst dL_law_357 ?_
  refine T.iadd dL_law_358 ?_
  refine T.sld (j := (i + 1)) dL_law_359 hX (by omega) (by omega) ?_
  refine T.topi (z := (xs ((i + 1))).toInt) (iI_of _).symm ?_
  refine T.aload_n dL_law_360 rfl ?_
  refine T.iload_n dL_law_361 rfl ?_
  refine T.iconst dL_law_362 ?_
  refine T.iadd dL_law_363 ?_
  refine T.sld (j := (i + 2)) dL_law_364 hX (by omega) (by omega) ?_
  refine T.topi (z := (xs ((i + 2))).toInt) (iI_of _).symm ?_
  refine T.aload_n dL_law_365 rfl ?_
  refine T.iload_n dL_law_366 rfl ?_
  refine T.iconst dL_law_367 ?_
  refine T.iadd dL_law_368 ?_
  refine T.sld (j := (i + 3)) dL_law_369 hX (by omega) (by omega) ?_
  refine T.topi (z := (xs ((i + 3))).toInt) (iI_of _).symm ?_
  refine T.cV1 (As := [.int (iI ((xs ((i + 1))).toInt)), .int (iI ((xs ((i + 2))).toInt)), .int (iI ((xs ((i + 3))).toInt))]) (st := []) dL_law_370 lk_L_32 (c_word E m (xs (i + 1)).toInt (xs (i + 2)).toInt (xs (i + 3)).toInt hg.1 (rg_of _) (rg_of _) (rg_of _)) ok0 rfl rfl (by decide) rfl rfl (Nat.le_of_ble_eq_true rfl) ?_
  refine T.aload_n dL_law_373 rfl ?_
  refine T.aload_n dL_law_374 rfl ?_
  refine T.iload_n dL_law_375 rfl ?_
  refine T.iconst dL_law_376 ?_
  refine T.iadd dL_law_377 ?_
  refine T.sld (j := (i + 1)) dL_law_378 hX (by omega) (by omega) ?_
  refine T.topi (z := (xs ((i + 1))).toInt) (iI_of _).symm ?_
  refine T.aload_n dL_law_379 rfl ?_
  refine T.iload_n dL_law_380 rfl ?_
  refine T.iconst dL_law_381 ?_
  refine T.iadd dL_law_382 ?_
  refine T.sld (j := (i + 2)) dL_law_383 hX (by omega) (by omega) ?_
  refine T.topi (z := (xs ((i + 2))).toInt) (iI_of _).symm ?_
  refine T.aload_n dL_law_384 rfl ?_
  refine T.iload_n dL_law_385 rfl ?_
  refine T.iconst dL_law_386 ?_
  refine T.iadd dL_law_387 ?_
  refine T.sld (j := (i + 3)) dL_law_388 hX (by omega) (by omega) ?_
  refine T.topi (z := (xs ((i + 3))).toInt) (iI_of _).symm ?_
  refine T.cV1 (As := [.int (iI ((xs ((i + 1))).toInt)), .int (iI ((xs ((i + 2))).toInt)), .int (iI ((xs ((i + 3))).toInt))]) (st := [.int (iI (wordR m (xs (i + 1)).toInt (xs (i + 2)).toInt (xs (i + 3)).toInt))]) dL_law_389 lk_L_35 (by have h0 := n_word E (wordM m (xs (i + 1)).toInt (xs (i + 2)).toInt (xs (i + 3)).toInt) (mv (wordM m (xs (i + 1)).toInt (xs (i + 2)).toInt (xs (i + 3)).toInt)) (xs (i + 1)).toInt (xs (i + 2)).toInt (xs (i + 3)).toInt (fun k x _ => hs.1 k 0 0 x) (rg_of _) (rg_of _) (rg_of _); rw [wrM_self] at h0; exact h0) ok29 rfl rfl (by decide) rfl rfl (Nat.le_of_ble_eq_true rfl) ?_
  refine T.icmpE 1424 dL_law_392 hs.2.2.1 ?_
  exact hK _ hs.2.2.2
set_option maxHeartbeats 4000000 in
set_option maxRecDepth 100000 in
theorem L_move (hS0 : Sim_move) (E : Ev) (ad : AD) (hR : ∀ s, E.2.2.2.2 s → RO E.2.2.1 ad s) (sb L : Nat) (xs : Nat → Int32) (hX : ∀ s, E.2.2.2.2 s → SX E sb L xs s) (hL : L ≤ 3584) (N : Nat) (hN : N = 300) (i : Nat) (hi : i + 7 ≤ L) (m : Mem) (hg : Good m) (Q : Option Value → Hp → Prop) (hK : ∀ m', Good m' → T E 20 mL_law 1424 [some (.ref sb), some (rf E 0 0 0), some (rf E 29 0 0), some (.int (iI (i : Int)))] [] (hp E m') Q) : T E 20 mL_law 397 [some (.ref sb), some (rf E 0 0 0), some (rf E 29 0 0), some (.int (iI (i : Int)))] [] (hp E m) Q := by
  have hs := hS0 (xs (i + 1)).toInt (xs (i + 2)).toInt (rg_of _) (rg_of _) m hg
  refine T.aload_n dL_law_397 rfl ?_
  refine T.aload_n dL_law_398 rfl ?_
  refine T.iload_n dL_law_399 rfl ?_
  refine T.iconst dL_law_400 ?_
  refine T.iadd dL_law_401 ?_
  refine T.sld (j := (i + 1)) dL_law_402 hX (by omega) (by omega) ?_
  refine T.topi (z := (xs ((i + 1))).toInt) (iI_of _).symm ?_
  refine T.aload_n dL_law_403 rfl ?_
  refine T.iload_n dL_law_404 rfl ?_
  refine T.iconst dL_law_405 ?_
  refine T.iadd dL_law_406 ?_
  refine T.sld (j := (i + 2)) dL_law_407 hX (by omega) (by omega) ?_
  refine T.topi (z := (xs ((i + 2))).toInt) (iI_of _).symm ?_
  refine T.cV1 (As := [.int (iI ((xs ((i + 1))).toInt)), .int (iI ((xs ((i + 2))).toInt))]) (st := []) dL_law_408 lk_L_36 (c_move E m (xs (i + 1)).toInt (xs (i + 2)).toInt hg.1 (rg_of _) (rg_of _)) ok0 rfl rfl (by decide) rfl rfl (Nat.le_of_ble_eq_true rfl) ?_
  refine T.aload_n dL_law_411 rfl ?_
  refine T.aload_n dL_law_412 rfl ?_
  refine T.iload_n dL_law_413 rfl ?_
  refine T.iconst dL_law_414 ?_
  refine T.iadd dL_law_415 ?_
  refine T.sld (j := (i + 1)) dL_law_416 hX (by omega) (by omega) ?_
  refine T.topi (z := (xs ((i + 1))).toInt) (iI_of _).symm ?_
  refine T.aload_n dL_law_417 rfl ?_
  refine T.iload_n dL_law_418 rfl ?_
  refine T.iconst dL_law_419 ?_
  refine T.iadd dL_law_420 ?_
  refine T.sld (j := (i + 2)) dL_law_421 hX (by omega) (by omega) ?_
  refine T.topi (z := (xs ((i + 2))).toInt) (iI_of _).symm ?_
  refine T.cV1 (As := [.int (iI ((xs ((i + 1))).toInt)), .int (iI ((xs ((i + 2))).toInt))]) (st := [.int (iI (moveR m (xs (i + 1)).toInt (xs (i + 2)).toInt))]) dL_law_422 lk_L_39 (by have h0 := n_move E (moveM m (xs (i + 1)).toInt (xs (i + 2)).toInt) (mv (moveM m (xs (i + 1)).toInt (xs (i + 2)).toInt)) (xs (i + 1)).toInt (xs (i + 2)).toInt (fun k x _ => hs.1 k 0 0 x) (rg_of _) (rg_of _); rw [wrM_self] at h0; exact h0) ok29 rfl rfl (by decide) rfl rfl (Nat.le_of_ble_eq_true rfl) ?_
  refine T.icmpE 1424 dL_law_425 hs.2.2.1 ?_
  exact hK _ hs.2.2.2
set_option maxHeartbeats 4000000 in
set_option maxRecDepth 100000 in
theorem L_count (hS0 : Sim_count) (E : Ev) (ad : AD) (hR : ∀ s, E.2.2.2.2 s → RO E.2.2.1 ad s) (sb L : Nat) (xs : Nat → Int32) (hX : ∀ s, E.2.2.2.2 s → SX E sb L xs s) (hL : L ≤ 3584) (N : Nat) (hN : N = 300) (i : Nat) (hi : i + 7 ≤ L) (m : Mem) (hg : Good m) (Q : Option Value → Hp → Prop) (hK : ∀ m', Good m' → T E 20 mL_law 1424 [some (.ref sb), some (rf E 0 0 0), some (rf E 29 0 0), some (.int (iI (i : Int)))] [] (hp E m') Q) : T E 20 mL_law 430 [some (.ref sb), some (rf E 0 0 0), some (rf E 29 0 0), some (.int (iI (i : Int)))] [] (hp E m) Q := by
  have hs := hS0 (xs (i + 1)).toInt (rg_of _) m hg
  refine T.aload_n dL_law_430 rfl ?_
  refine T.aload_n dL_law_431 rfl ?_
  refine T.iload_n dL_law_432 rfl ?_
  refine T.iconst dL_law_433 ?_
  refine T.iadd dL_law_434 ?_
  refine T.sld (j := (i + 1)) dL_law_435 hX (by omega) (by omega) ?_
  refine T.topi (z := (xs ((i + 1))).toInt) (iI_of _).symm ?_
  refine T.cV1 (As := [.int (iI ((xs ((i + 1))).toInt))]) (st := []) dL_law_436 lk_L_40 (c_count E m (xs (i + 1)).toInt hg.1 (rg_of _)) ok0 rfl rfl (by decide) rfl rfl (Nat.le_of_ble_eq_true rfl) ?_
  refine T.aload_n dL_law_439 rfl ?_
  refine T.aload_n dL_law_440 rfl ?_
  refine T.iload_n dL_law_441 rfl ?_
  refine T.iconst dL_law_442 ?_
  refine T.iadd dL_law_443 ?_
  refine T.sld (j := (i + 1)) dL_law_444 hX (by omega) (by omega) ?_
  refine T.topi (z := (xs ((i + 1))).toInt) (iI_of _).symm ?_
  refine T.cV1 (As := [.int (iI ((xs ((i + 1))).toInt))]) (st := [.int (iI (countR m (xs (i + 1)).toInt))]) dL_law_445 lk_L_44 (by have h0 := n_count E (countM m (xs (i + 1)).toInt) (mv (countM m (xs (i + 1)).toInt)) (xs (i + 1)).toInt (fun k x _ => hs.1 k 0 0 x) (rg_of _); rw [wrM_self] at h0; exact h0) ok29 rfl rfl (by decide) rfl rfl (Nat.le_of_ble_eq_true rfl) ?_
  refine T.icmpE 1424 dL_law_448 hs.2.2.1 ?_
  exact hK _ hs.2.2.2
set_option maxHeartbeats 4000000 in
set_option maxRecDepth 100000 in
theorem L_type (hS0 : Sim_type) (E : Ev) (ad : AD) (hR : ∀ s, E.2.2.2.2 s → RO E.2.2.1 ad s) (sb L : Nat) (xs : Nat → Int32) (hX : ∀ s, E.2.2.2.2 s → SX E sb L xs s) (hL : L ≤ 3584) (N : Nat) (hN : N = 300) (i : Nat) (hi : i + 7 ≤ L) (m : Mem) (hg : Good m) (Q : Option Value → Hp → Prop) (hK : ∀ m', Good m' → T E 20 mL_law 1424 [some (.ref sb), some (rf E 0 0 0), some (rf E 29 0 0), some (.int (iI (i : Int)))] [] (hp E m') Q) : T E 20 mL_law 453 [some (.ref sb), some (rf E 0 0 0), some (rf E 29 0 0), some (.int (iI (i : Int)))] [] (hp E m) Q := by
  have hs := hS0 ((lI (xs (i + 1)).toInt <<< ((iI 32).toInt64 &&& 63)) ||| ((iI (xs (i + 2)).toInt).toInt64 &&& lI 4294967295)) (xs (i + 3)).toInt (rg_of _) m hg
  refine T.aload_n dL_law_453 rfl ?_
  refine T.aload_n dL_law_454 rfl ?_
  refine T.iload_n dL_law_455 rfl ?_
  refine T.iconst dL_law_456 ?_
  refine T.iadd dL_law_457 ?_
  refine T.sld (j := (i + 1)) dL_law_458 hX (by omega) (by omega) ?_
  refine T.topi (z := (xs ((i + 1))).toInt) (iI_of _).symm ?_
  refine T.i2l dL_law_459 (rg_of _) ?_
  refine T.bipush dL_law_460 ?_
  refine T.lshl dL_law_462 ?_
  refine T.aload_n dL_law_463 rfl ?_
  refine T.iload_n dL_law_464 rfl ?_
  refine T.iconst dL_law_465 ?_
  refine T.iadd dL_law_466 ?_
  refine T.sld (j := (i + 2)) dL_law_467 hX (by omega) (by omega) ?_
  refine T.topi (z := (xs ((i + 2))).toInt) (iI_of _).symm ?_
  refine T.i2l dL_law_468 (rg_of _) ?_
  rw [← iI_long (rg_of _)]
  refine T.ldc2 dL_law_469 kl_L_45 ?_
  refine T.land dL_law_472 ?_
  refine T.lor dL_law_473 ?_
  refine T.aload_n dL_law_474 rfl ?_
  refine T.iload_n dL_law_475 rfl ?_
  refine T.iconst dL_law_476 ?_
  refine T.iadd dL_law_477 ?_
  refine T.sld (j := (i + 3)) dL_law_478 hX (by omega) (by omega) ?_
  refine T.topi (z := (xs ((i + 3))).toInt) (iI_of _).symm ?_
  refine T.cV1 (As := [.long ((lI (xs (i + 1)).toInt <<< ((iI 32).toInt64 &&& 63)) ||| ((iI (xs (i + 2)).toInt).toInt64 &&& lI 4294967295)), .int (iI ((xs ((i + 3))).toInt))]) (st := []) dL_law_479 lk_L_47 (c_type E m ((lI (xs (i + 1)).toInt <<< ((iI 32).toInt64 &&& 63)) ||| ((iI (xs (i + 2)).toInt).toInt64 &&& lI 4294967295)) (xs (i + 3)).toInt hg.1 (rg_of _)) ok0 rfl rfl (by decide) rfl rfl (Nat.le_of_ble_eq_true rfl) ?_
  refine T.aload_n dL_law_482 rfl ?_
  refine T.aload_n dL_law_483 rfl ?_
  refine T.iload_n dL_law_484 rfl ?_
  refine T.iconst dL_law_485 ?_
  refine T.iadd dL_law_486 ?_
  refine T.sld (j := (i + 1)) dL_law_487 hX (by omega) (by omega) ?_
  refine T.topi (z := (xs ((i + 1))).toInt) (iI_of _).symm ?_
  refine T.i2l dL_law_488 (rg_of _) ?_
  refine T.bipush dL_law_489 ?_
  refine T.lshl dL_law_491 ?_
  refine T.aload_n dL_law_492 rfl ?_
  refine T.iload_n dL_law_493 rfl ?_
  refine T.iconst dL_law_494 ?_
  refine T.iadd dL_law_495 ?_
  refine T.sld (j := (i + 2)) dL_law_496 hX (by omega) (by omega) ?_
  refine T.topi (z := (xs ((i + 2))).toInt) (iI_of _).symm ?_
  refine T.i2l dL_law_497 (rg_of _) ?_
  rw [← iI_long (rg_of _)]
  refine T.ldc2 dL_law_498 kl_L_45 ?_
  refine T.land dL_law_501 ?_
  refine T.lor dL_law_502 ?_
  refine T.aload_n dL_law_503 rfl ?_
  refine T.iload_n dL_law_504 rfl ?_
  refine T.iconst dL_law_505 ?_
  refine T.iadd dL_law_506 ?_
  refine T.sld (j := (i + 3)) dL_law_507 hX (by omega) (by omega) ?_
  refine T.topi (z := (xs ((i + 3))).toInt) (iI_of _).symm ?_
  refine T.cV1 (As := [.long ((lI (xs (i + 1)).toInt <<< ((iI 32).toInt64 &&& 63)) ||| ((iI (xs (i + 2)).toInt).toInt64 &&& lI 4294967295)), .int (iI ((xs ((i + 3))).toInt))]) (st := [.int (iI (typeR m ((lI (xs (i + 1)).toInt <<< ((iI 32).toInt64 &&& 63)) ||| ((iI (xs (i + 2)).toInt).toInt64 &&& lI 4294967295)) (xs (i + 3)).toInt))]) dL_law_508 lk_L_51 (by have h0 := n_type E (typeM m ((lI (xs (i + 1)).toInt <<< ((iI 32).toInt64 &&& 63)) ||| ((iI (xs (i + 2)).toInt).toInt64 &&& lI 4294967295)) (xs (i + 3)).toInt) (mv (typeM m ((lI (xs (i + 1)).toInt <<< ((iI 32).toInt64 &&& 63)) ||| ((iI (xs (i + 2)).toInt).toInt64 &&& lI 4294967295)) (xs (i + 3)).toInt)) ((lI (xs (i + 1)).toInt <<< ((iI 32).toInt64 &&& 63)) ||| ((iI (xs (i + 2)).toInt).toInt64 &&& lI 4294967295)) (xs (i + 3)).toInt (fun k x _ => hs.1 k 0 0 x) (rg_of _); rw [wrM_self] at h0; exact h0) ok29 rfl rfl (by decide) rfl rfl (Nat.le_of_ble_eq_true rfl) ?_
  refine T.icmpE 1424 dL_law_511 hs.2.2.1 ?_
  exact hK _ hs.2.2.2
set_option maxHeartbeats 4000000 in
set_option maxRecDepth 100000 in
theorem L_law (hS0 : Sim_law) (E : Ev) (ad : AD) (hR : ∀ s, E.2.2.2.2 s → RO E.2.2.1 ad s) (sb L : Nat) (xs : Nat → Int32) (hX : ∀ s, E.2.2.2.2 s → SX E sb L xs s) (hL : L ≤ 3584) (N : Nat) (hN : N = 300) (i : Nat) (hi : i + 7 ≤ L) (m : Mem) (hg : Good m) (Q : Option Value → Hp → Prop) (hK : ∀ m', Good m' → T E 20 mL_law 1424 [some (.ref sb), some (rf E 0 0 0), some (rf E 29 0 0), some (.int (iI (i : Int)))] [] (hp E m') Q) : T E 20 mL_law 516 [some (.ref sb), some (rf E 0 0 0), some (rf E 29 0 0), some (.int (iI (i : Int)))] [] (hp E m) Q := by
  have hs := hS0 (xs (i + 1)).toInt (rg_of _) m hg
  refine T.aload_n dL_law_516 rfl ?_
  refine T.aload_n dL_law_517 rfl ?_
  refine T.iload_n dL_law_518 rfl ?_
  refine T.iconst dL_law_519 ?_
  refine T.iadd dL_law_520 ?_
  refine T.sld (j := (i + 1)) dL_law_521 hX (by omega) (by omega) ?_
  refine T.topi (z := (xs ((i + 1))).toInt) (iI_of _).symm ?_
  refine T.cV1 (As := [.int (iI ((xs ((i + 1))).toInt))]) (st := []) dL_law_522 lk_L_52 (c_law E m ad hR (xs (i + 1)).toInt hg.1 (rg_of _)) ok0 rfl rfl (by decide) rfl rfl (Nat.le_of_ble_eq_true rfl) ?_
  refine T.aload_n dL_law_525 rfl ?_
  refine T.aload_n dL_law_526 rfl ?_
  refine T.iload_n dL_law_527 rfl ?_
  refine T.iconst dL_law_528 ?_
  refine T.iadd dL_law_529 ?_
  refine T.sld (j := (i + 1)) dL_law_530 hX (by omega) (by omega) ?_
  refine T.topi (z := (xs ((i + 1))).toInt) (iI_of _).symm ?_
  refine T.cV1 (As := [.int (iI ((xs ((i + 1))).toInt))]) (st := [.int (iI (lawR m (xs (i + 1)).toInt))]) dL_law_531 lk_L_55 (by have h0 := n_law E (lawM m (xs (i + 1)).toInt) (mv (lawM m (xs (i + 1)).toInt)) (xs (i + 1)).toInt (fun k x _ => hs.1 k 0 0 x) (rg_of _); rw [wrM_self] at h0; exact h0) ok29 rfl rfl (by decide) rfl rfl (Nat.le_of_ble_eq_true rfl) ?_
  refine T.icmpE 1424 dL_law_534 hs.2.2.1 ?_
  exact hK _ hs.2.2.2
set_option maxHeartbeats 4000000 in
set_option maxRecDepth 100000 in
theorem L_letter (hS0 : Sim_letter) (E : Ev) (ad : AD) (hR : ∀ s, E.2.2.2.2 s → RO E.2.2.1 ad s) (sb L : Nat) (xs : Nat → Int32) (hX : ∀ s, E.2.2.2.2 s → SX E sb L xs s) (hL : L ≤ 3584) (N : Nat) (hN : N = 300) (i : Nat) (hi : i + 7 ≤ L) (m : Mem) (hg : Good m) (Q : Option Value → Hp → Prop) (hK : ∀ m', Good m' → T E 20 mL_law 1424 [some (.ref sb), some (rf E 0 0 0), some (rf E 29 0 0), some (.int (iI (i : Int)))] [] (hp E m') Q) : T E 20 mL_law 539 [some (.ref sb), some (rf E 0 0 0), some (rf E 29 0 0), some (.int (iI (i : Int)))] [] (hp E m) Q := by
  have hs := hS0 (xs (i + 1)).toInt (xs (i + 2)).toInt (rg_of _) (rg_of _) m hg
  refine T.aload_n dL_law_539 rfl ?_
  refine T.aload_n dL_law_540 rfl ?_
  refine T.iload_n dL_law_541 rfl ?_
  refine T.iconst dL_law_542 ?_
  refine T.iadd dL_law_543 ?_
  refine T.sld (j := (i + 1)) dL_law_544 hX (by omega) (by omega) ?_
  refine T.topi (z := (xs ((i + 1))).toInt) (iI_of _).symm ?_
  refine T.aload_n dL_law_545 rfl ?_
  refine T.iload_n dL_law_546 rfl ?_
  refine T.iconst dL_law_547 ?_
  refine T.iadd dL_law_548 ?_
  refine T.sld (j := (i + 2)) dL_law_549 hX (by omega) (by omega) ?_
  refine T.topi (z := (xs ((i + 2))).toInt) (iI_of _).symm ?_
  refine T.cV1 (As := [.int (iI ((xs ((i + 1))).toInt)), .int (iI ((xs ((i + 2))).toInt))]) (st := []) dL_law_550 lk_L_56 (c_letter E m (xs (i + 1)).toInt (xs (i + 2)).toInt hg.1 (rg_of _) (rg_of _)) ok0 rfl rfl (by decide) rfl rfl (Nat.le_of_ble_eq_true rfl) ?_
  refine T.aload_n dL_law_553 rfl ?_
  refine T.aload_n dL_law_554 rfl ?_
  refine T.iload_n dL_law_555 rfl ?_
  refine T.iconst dL_law_556 ?_
  refine T.iadd dL_law_557 ?_
  refine T.sld (j := (i + 1)) dL_law_558 hX (by omega) (by omega) ?_
  refine T.topi (z := (xs ((i + 1))).toInt) (iI_of _).symm ?_
  refine T.aload_n dL_law_559 rfl ?_
  refine T.iload_n dL_law_560 rfl ?_
  refine T.iconst dL_law_561 ?_
  refine T.iadd dL_law_562 ?_
  refine T.sld (j := (i + 2)) dL_law_563 hX (by omega) (by omega) ?_
  refine T.topi (z := (xs ((i + 2))).toInt) (iI_of _).symm ?_
  refine T.cV1 (As := [.int (iI ((xs ((i + 1))).toInt)), .int (iI ((xs ((i + 2))).toInt))]) (st := [.int (iI (letterR m (xs (i + 1)).toInt (xs (i + 2)).toInt))]) dL_law_564 lk_L_59 (by have h0 := n_letter E (letterM m (xs (i + 1)).toInt (xs (i + 2)).toInt) (mv (letterM m (xs (i + 1)).toInt (xs (i + 2)).toInt)) (xs (i + 1)).toInt (xs (i + 2)).toInt (fun k x _ => hs.1 k 0 0 x) (rg_of _) (rg_of _); rw [wrM_self] at h0; exact h0) ok29 rfl rfl (by decide) rfl rfl (Nat.le_of_ble_eq_true rfl) ?_
  refine T.icmpE 1424 dL_law_567 hs.2.2.1 ?_
  exact hK _ hs.2.2.2
set_option maxHeartbeats 4000000 in
set_option maxRecDepth 100000 in
theorem L_left (hS0 : Sim_left) (E : Ev) (ad : AD) (hR : ∀ s, E.2.2.2.2 s → RO E.2.2.1 ad s) (sb L : Nat) (xs : Nat → Int32) (hX : ∀ s, E.2.2.2.2 s → SX E sb L xs s) (hL : L ≤ 3584) (N : Nat) (hN : N = 300) (i : Nat) (hi : i + 7 ≤ L) (m : Mem) (hg : Good m) (Q : Option Value → Hp → Prop) (hK : ∀ m', Good m' → T E 20 mL_law 1424 [some (.ref sb), some (rf E 0 0 0), some (rf E 29 0 0), some (.int (iI (i : Int)))] [] (hp E m') Q) : T E 20 mL_law 572 [some (.ref sb), some (rf E 0 0 0), some (rf E 29 0 0), some (.int (iI (i : Int)))] [] (hp E m) Q := by
  have hs := hS0 (xs (i + 1)).toInt (xs (i + 2)).toInt (xs (i + 3)).toInt (xs (i + 4)).toInt (rg_of _) (rg_of _) (rg_of _) (rg_of _) m hg
  refine T.aload_n dL_law_572 rfl ?_
  refine T.aload_n dL_law_573 rfl ?_
  refine T.iload_n dL_law_574 rfl ?_
  refine T.iconst dL_law_575 ?_
  refine T.iadd dL_law_576 ?_
  refine T.sld (j := (i + 1)) dL_law_577 hX (by omega) (by omega) ?_
  refine T.topi (z := (xs ((i + 1))).toInt) (iI_of _).symm ?_
  refine T.aload_n dL_law_578 rfl ?_
  refine T.iload_n dL_law_579 rfl ?_
  refine T.iconst dL_law_580 ?_
  refine T.iadd dL_law_581 ?_
  refine T.sld (j := (i + 2)) dL_law_582 hX (by omega) (by omega) ?_
  refine T.topi (z := (xs ((i + 2))).toInt) (iI_of _).symm ?_
  refine T.aload_n dL_law_583 rfl ?_
  refine T.iload_n dL_law_584 rfl ?_
  refine T.iconst dL_law_585 ?_
  refine T.iadd dL_law_586 ?_
  refine T.sld (j := (i + 3)) dL_law_587 hX (by omega) (by omega) ?_
  refine T.topi (z := (xs ((i + 3))).toInt) (iI_of _).symm ?_
  refine T.aload_n dL_law_588 rfl ?_
  refine T.iload_n dL_law_589 rfl ?_
  refine T.iconst dL_law_590 ?_
  refine T.iadd dL_law_591 ?_
  refine T.sld (j := (i + 4)) dL_law_592 hX (by omega) (by omega) ?_
  refine T.topi (z := (xs ((i + 4))).toInt) (iI_of _).symm ?_
  refine T.cV1 (As := [.int (iI ((xs ((i + 1))).toInt)), .int (iI ((xs ((i + 2))).toInt)), .int (iI ((xs ((i + 3))).toInt)), .int (iI ((xs ((i + 4))).toInt))]) (st := []) dL_law_593 lk_L_60 (c_left E m (xs (i + 1)).toInt (xs (i + 2)).toInt (xs (i + 3)).toInt (xs (i + 4)).toInt hg.1 (rg_of _) (rg_of _) (rg_of _) (rg_of _)) ok0 rfl rfl (by decide) rfl rfl (Nat.le_of_ble_eq_true rfl) ?_
  refine T.aload_n dL_law_596 rfl ?_
  refine T.aload_n dL_law_597 rfl ?_
  refine T.iload_n dL_law_598 rfl ?_
  refine T.iconst dL_law_599 ?_
  refine T.iadd dL_law_600 ?_
  refine T.sld (j := (i + 1)) dL_law_601 hX (by omega) (by omega) ?_
  refine T.topi (z := (xs ((i + 1))).toInt) (iI_of _).symm ?_
  refine T.aload_n dL_law_602 rfl ?_
  refine T.iload_n dL_law_603 rfl ?_
  refine T.iconst dL_law_604 ?_
  refine T.iadd dL_law_605 ?_
  refine T.sld (j := (i + 2)) dL_law_606 hX (by omega) (by omega) ?_
  refine T.topi (z := (xs ((i + 2))).toInt) (iI_of _).symm ?_
  refine T.aload_n dL_law_607 rfl ?_
  refine T.iload_n dL_law_608 rfl ?_
  refine T.iconst dL_law_609 ?_
  refine T.iadd dL_law_610 ?_
  refine T.sld (j := (i + 3)) dL_law_611 hX (by omega) (by omega) ?_
  refine T.topi (z := (xs ((i + 3))).toInt) (iI_of _).symm ?_
  refine T.aload_n dL_law_612 rfl ?_
  refine T.iload_n dL_law_613 rfl ?_
  refine T.iconst dL_law_614 ?_
  refine T.iadd dL_law_615 ?_
  refine T.sld (j := (i + 4)) dL_law_616 hX (by omega) (by omega) ?_
  refine T.topi (z := (xs ((i + 4))).toInt) (iI_of _).symm ?_
  refine T.cV1 (As := [.int (iI ((xs ((i + 1))).toInt)), .int (iI ((xs ((i + 2))).toInt)), .int (iI ((xs ((i + 3))).toInt)), .int (iI ((xs ((i + 4))).toInt))]) (st := [.long (lI (leftR m (xs (i + 1)).toInt (xs (i + 2)).toInt (xs (i + 3)).toInt (xs (i + 4)).toInt))]) dL_law_617 lk_L_64 (by have h0 := n_left E (leftM m (xs (i + 1)).toInt (xs (i + 2)).toInt (xs (i + 3)).toInt (xs (i + 4)).toInt) (mv (leftM m (xs (i + 1)).toInt (xs (i + 2)).toInt (xs (i + 3)).toInt (xs (i + 4)).toInt)) (xs (i + 1)).toInt (xs (i + 2)).toInt (xs (i + 3)).toInt (xs (i + 4)).toInt (fun k x _ => hs.1 k 0 0 x) hs.2.1 (rg_of _) (rg_of _) (rg_of _) (rg_of _); rw [wrM_self] at h0; exact h0) ok29 rfl rfl (by decide) rfl rfl (Nat.le_of_ble_eq_true rfl) ?_
  refine T.lcmpE 1424 dL_law_620 dL_law_621 hs.2.2.1 ?_
  exact hK _ hs.2.2.2
set_option maxHeartbeats 4000000 in
set_option maxRecDepth 100000 in
theorem L_owed (hS0 : Sim_owed) (E : Ev) (ad : AD) (hR : ∀ s, E.2.2.2.2 s → RO E.2.2.1 ad s) (sb L : Nat) (xs : Nat → Int32) (hX : ∀ s, E.2.2.2.2 s → SX E sb L xs s) (hL : L ≤ 3584) (N : Nat) (hN : N = 300) (i : Nat) (hi : i + 7 ≤ L) (m : Mem) (hg : Good m) (Q : Option Value → Hp → Prop) (hK : ∀ m', Good m' → T E 20 mL_law 1424 [some (.ref sb), some (rf E 0 0 0), some (rf E 29 0 0), some (.int (iI (i : Int)))] [] (hp E m') Q) : T E 20 mL_law 626 [some (.ref sb), some (rf E 0 0 0), some (rf E 29 0 0), some (.int (iI (i : Int)))] [] (hp E m) Q := by
  have hs := hS0 (xs (i + 1)).toInt (xs (i + 2)).toInt (rg_of _) (rg_of _) m hg
  refine T.aload_n dL_law_626 rfl ?_
  refine T.aload_n dL_law_627 rfl ?_
  refine T.iload_n dL_law_628 rfl ?_
  refine T.iconst dL_law_629 ?_
  refine T.iadd dL_law_630 ?_
  refine T.sld (j := (i + 1)) dL_law_631 hX (by omega) (by omega) ?_
  refine T.topi (z := (xs ((i + 1))).toInt) (iI_of _).symm ?_
  refine T.aload_n dL_law_632 rfl ?_
  refine T.iload_n dL_law_633 rfl ?_
  refine T.iconst dL_law_634 ?_
  refine T.iadd dL_law_635 ?_
  refine T.sld (j := (i + 2)) dL_law_636 hX (by omega) (by omega) ?_
  refine T.topi (z := (xs ((i + 2))).toInt) (iI_of _).symm ?_
  refine T.cV1 (As := [.int (iI ((xs ((i + 1))).toInt)), .int (iI ((xs ((i + 2))).toInt))]) (st := []) dL_law_637 lk_L_65 (c_owed E m (xs (i + 1)).toInt (xs (i + 2)).toInt hg.1 (rg_of _) (rg_of _)) ok0 rfl rfl (by decide) rfl rfl (Nat.le_of_ble_eq_true rfl) ?_
  refine T.aload_n dL_law_640 rfl ?_
  refine T.aload_n dL_law_641 rfl ?_
  refine T.iload_n dL_law_642 rfl ?_
  refine T.iconst dL_law_643 ?_
  refine T.iadd dL_law_644 ?_
  refine T.sld (j := (i + 1)) dL_law_645 hX (by omega) (by omega) ?_
  refine T.topi (z := (xs ((i + 1))).toInt) (iI_of _).symm ?_
  refine T.aload_n dL_law_646 rfl ?_
  refine T.iload_n dL_law_647 rfl ?_
  refine T.iconst dL_law_648 ?_
  refine T.iadd dL_law_649 ?_
  refine T.sld (j := (i + 2)) dL_law_650 hX (by omega) (by omega) ?_
  refine T.topi (z := (xs ((i + 2))).toInt) (iI_of _).symm ?_
  refine T.cV1 (As := [.int (iI ((xs ((i + 1))).toInt)), .int (iI ((xs ((i + 2))).toInt))]) (st := [.long (lI (owedR m (xs (i + 1)).toInt (xs (i + 2)).toInt))]) dL_law_651 lk_L_69 (by have h0 := n_owed E (owedM m (xs (i + 1)).toInt (xs (i + 2)).toInt) (mv (owedM m (xs (i + 1)).toInt (xs (i + 2)).toInt)) (xs (i + 1)).toInt (xs (i + 2)).toInt (fun k x _ => hs.1 k 0 0 x) hs.2.1 (rg_of _) (rg_of _); rw [wrM_self] at h0; exact h0) ok29 rfl rfl (by decide) rfl rfl (Nat.le_of_ble_eq_true rfl) ?_
  refine T.lcmpE 1424 dL_law_654 dL_law_655 hs.2.2.1 ?_
  exact hK _ hs.2.2.2
set_option maxHeartbeats 4000000 in
set_option maxRecDepth 100000 in
theorem L_put (hS0 : Sim_put) (E : Ev) (ad : AD) (hR : ∀ s, E.2.2.2.2 s → RO E.2.2.1 ad s) (sb L : Nat) (xs : Nat → Int32) (hX : ∀ s, E.2.2.2.2 s → SX E sb L xs s) (hL : L ≤ 3584) (N : Nat) (hN : N = 300) (i : Nat) (hi : i + 7 ≤ L) (m : Mem) (hg : Good m) (Q : Option Value → Hp → Prop) (hK : ∀ m', Good m' → T E 20 mL_law 1424 [some (.ref sb), some (rf E 0 0 0), some (rf E 29 0 0), some (.int (iI (i : Int)))] [] (hp E m') Q) : T E 20 mL_law 660 [some (.ref sb), some (rf E 0 0 0), some (rf E 29 0 0), some (.int (iI (i : Int)))] [] (hp E m) Q := by
  have hs := hS0 (xs (i + 1)).toInt (xs (i + 2)).toInt (xs (i + 3)).toInt (xs (i + 4)).toInt (rg_of _) (rg_of _) (rg_of _) (rg_of _) m hg
  refine T.aload_n dL_law_660 rfl ?_
  refine T.aload_n dL_law_661 rfl ?_
  refine T.iload_n dL_law_662 rfl ?_
  refine T.iconst dL_law_663 ?_
  refine T.iadd dL_law_664 ?_
  refine T.sld (j := (i + 1)) dL_law_665 hX (by omega) (by omega) ?_
  refine T.topi (z := (xs ((i + 1))).toInt) (iI_of _).symm ?_
  refine T.aload_n dL_law_666 rfl ?_
  refine T.iload_n dL_law_667 rfl ?_
  refine T.iconst dL_law_668 ?_
  refine T.iadd dL_law_669 ?_
  refine T.sld (j := (i + 2)) dL_law_670 hX (by omega) (by omega) ?_
  refine T.topi (z := (xs ((i + 2))).toInt) (iI_of _).symm ?_
  refine T.aload_n dL_law_671 rfl ?_
  refine T.iload_n dL_law_672 rfl ?_
  refine T.iconst dL_law_673 ?_
  refine T.iadd dL_law_674 ?_
  refine T.sld (j := (i + 3)) dL_law_675 hX (by omega) (by omega) ?_
  refine T.topi (z := (xs ((i + 3))).toInt) (iI_of _).symm ?_
  refine T.aload_n dL_law_676 rfl ?_
  refine T.iload_n dL_law_677 rfl ?_
  refine T.iconst dL_law_678 ?_
  refine T.iadd dL_law_679 ?_
  refine T.sld (j := (i + 4)) dL_law_680 hX (by omega) (by omega) ?_
  refine T.topi (z := (xs ((i + 4))).toInt) (iI_of _).symm ?_
  refine T.cV1 (As := [.int (iI ((xs ((i + 1))).toInt)), .int (iI ((xs ((i + 2))).toInt)), .int (iI ((xs ((i + 3))).toInt)), .int (iI ((xs ((i + 4))).toInt))]) (st := []) dL_law_681 lk_L_70 (c_put E m (xs (i + 1)).toInt (xs (i + 2)).toInt (xs (i + 3)).toInt (xs (i + 4)).toInt hg.1 (rg_of _) (rg_of _) (rg_of _) (rg_of _)) ok0 rfl rfl (by decide) rfl rfl (Nat.le_of_ble_eq_true rfl) ?_
  refine T.aload_n dL_law_684 rfl ?_
  refine T.aload_n dL_law_685 rfl ?_
  refine T.iload_n dL_law_686 rfl ?_
  refine T.iconst dL_law_687 ?_
  refine T.iadd dL_law_688 ?_
  refine T.sld (j := (i + 1)) dL_law_689 hX (by omega) (by omega) ?_
  refine T.topi (z := (xs ((i + 1))).toInt) (iI_of _).symm ?_
  refine T.aload_n dL_law_690 rfl ?_
  refine T.iload_n dL_law_691 rfl ?_
  refine T.iconst dL_law_692 ?_
  refine T.iadd dL_law_693 ?_
  refine T.sld (j := (i + 2)) dL_law_694 hX (by omega) (by omega) ?_
  refine T.topi (z := (xs ((i + 2))).toInt) (iI_of _).symm ?_
  refine T.aload_n dL_law_695 rfl ?_
  refine T.iload_n dL_law_696 rfl ?_
  refine T.iconst dL_law_697 ?_
  refine T.iadd dL_law_698 ?_
  refine T.sld (j := (i + 3)) dL_law_699 hX (by omega) (by omega) ?_
  refine T.topi (z := (xs ((i + 3))).toInt) (iI_of _).symm ?_
  refine T.aload_n dL_law_700 rfl ?_
  refine T.iload_n dL_law_701 rfl ?_
  refine T.iconst dL_law_702 ?_
  refine T.iadd dL_law_703 ?_
  refine T.sld (j := (i + 4)) dL_law_704 hX (by omega) (by omega) ?_
  refine T.topi (z := (xs ((i + 4))).toInt) (iI_of _).symm ?_
  refine T.cV1 (As := [.int (iI ((xs ((i + 1))).toInt)), .int (iI ((xs ((i + 2))).toInt)), .int (iI ((xs ((i + 3))).toInt)), .int (iI ((xs ((i + 4))).toInt))]) (st := [.long (lI (putR m (xs (i + 1)).toInt (xs (i + 2)).toInt (xs (i + 3)).toInt (xs (i + 4)).toInt))]) dL_law_705 lk_L_73 (by have h0 := n_put E (putM m (xs (i + 1)).toInt (xs (i + 2)).toInt (xs (i + 3)).toInt (xs (i + 4)).toInt) (mv (putM m (xs (i + 1)).toInt (xs (i + 2)).toInt (xs (i + 3)).toInt (xs (i + 4)).toInt)) (xs (i + 1)).toInt (xs (i + 2)).toInt (xs (i + 3)).toInt (xs (i + 4)).toInt (fun k x _ => hs.1 k 0 0 x) hs.2.1 (rg_of _) (rg_of _) (rg_of _) (rg_of _); rw [wrM_self] at h0; exact h0) ok29 rfl rfl (by decide) rfl rfl (Nat.le_of_ble_eq_true rfl) ?_
  refine T.lcmpE 1424 dL_law_708 dL_law_709 hs.2.2.1 ?_
  exact hK _ hs.2.2.2
set_option maxHeartbeats 4000000 in
set_option maxRecDepth 100000 in
theorem L_paid (hS0 : Sim_paid) (E : Ev) (ad : AD) (hR : ∀ s, E.2.2.2.2 s → RO E.2.2.1 ad s) (sb L : Nat) (xs : Nat → Int32) (hX : ∀ s, E.2.2.2.2 s → SX E sb L xs s) (hL : L ≤ 3584) (N : Nat) (hN : N = 300) (i : Nat) (hi : i + 7 ≤ L) (m : Mem) (hg : Good m) (Q : Option Value → Hp → Prop) (hK : ∀ m', Good m' → T E 20 mL_law 1424 [some (.ref sb), some (rf E 0 0 0), some (rf E 29 0 0), some (.int (iI (i : Int)))] [] (hp E m') Q) : T E 20 mL_law 714 [some (.ref sb), some (rf E 0 0 0), some (rf E 29 0 0), some (.int (iI (i : Int)))] [] (hp E m) Q := by
  have hs := hS0 N hN (xs (i + 1)).toInt (xs (i + 2)).toInt (rg_of _) (rg_of _) m hg
  refine T.aload_n dL_law_714 rfl ?_
  refine T.aload_n dL_law_715 rfl ?_
  refine T.iload_n dL_law_716 rfl ?_
  refine T.iconst dL_law_717 ?_
  refine T.iadd dL_law_718 ?_
  refine T.sld (j := (i + 1)) dL_law_719 hX (by omega) (by omega) ?_
  refine T.topi (z := (xs ((i + 1))).toInt) (iI_of _).symm ?_
  refine T.aload_n dL_law_720 rfl ?_
  refine T.iload_n dL_law_721 rfl ?_
  refine T.iconst dL_law_722 ?_
  refine T.iadd dL_law_723 ?_
  refine T.sld (j := (i + 2)) dL_law_724 hX (by omega) (by omega) ?_
  refine T.topi (z := (xs ((i + 2))).toInt) (iI_of _).symm ?_
  refine T.cV1 (As := [.int (iI ((xs ((i + 1))).toInt)), .int (iI ((xs ((i + 2))).toInt))]) (st := []) dL_law_725 lk_L_74 (c_paid E m (xs (i + 1)).toInt (xs (i + 2)).toInt hg.1 (rg_of _) (rg_of _)) ok0 rfl rfl (by decide) rfl rfl (Nat.le_of_ble_eq_true rfl) ?_
  refine T.aload_n dL_law_728 rfl ?_
  refine T.aload_n dL_law_729 rfl ?_
  refine T.iload_n dL_law_730 rfl ?_
  refine T.iconst dL_law_731 ?_
  refine T.iadd dL_law_732 ?_
  refine T.sld (j := (i + 1)) dL_law_733 hX (by omega) (by omega) ?_
  refine T.topi (z := (xs ((i + 1))).toInt) (iI_of _).symm ?_
  refine T.aload_n dL_law_734 rfl ?_
  refine T.iload_n dL_law_735 rfl ?_
  refine T.iconst dL_law_736 ?_
  refine T.iadd dL_law_737 ?_
  refine T.sld (j := (i + 2)) dL_law_738 hX (by omega) (by omega) ?_
  refine T.topi (z := (xs ((i + 2))).toInt) (iI_of _).symm ?_
  refine T.cV1 (As := [.int (iI ((xs ((i + 1))).toInt)), .int (iI ((xs ((i + 2))).toInt))]) (st := [.int (iI (paidR m (xs (i + 1)).toInt (xs (i + 2)).toInt))]) dL_law_739 lk_L_77 (by have h0 := n_paid E (paidM m (xs (i + 1)).toInt (xs (i + 2)).toInt) (mv (paidM m (xs (i + 1)).toInt (xs (i + 2)).toInt)) N (xs (i + 1)).toInt (xs (i + 2)).toInt (fun k x _ => hs.1 k 0 0 x) hN hs.2.1 (rg_of _) (rg_of _); rw [wrM_self] at h0; exact h0) ok29 rfl rfl (by decide) rfl rfl (Nat.le_of_ble_eq_true rfl) ?_
  refine T.icmpE 1424 dL_law_742 hs.2.2.1 ?_
  exact hK _ hs.2.2.2
set_option maxHeartbeats 4000000 in
set_option maxRecDepth 100000 in
theorem L_dead (hS0 : Sim_dead) (E : Ev) (ad : AD) (hR : ∀ s, E.2.2.2.2 s → RO E.2.2.1 ad s) (sb L : Nat) (xs : Nat → Int32) (hX : ∀ s, E.2.2.2.2 s → SX E sb L xs s) (hL : L ≤ 3584) (N : Nat) (hN : N = 300) (i : Nat) (hi : i + 7 ≤ L) (m : Mem) (hg : Good m) (Q : Option Value → Hp → Prop) (hK : ∀ m', Good m' → T E 20 mL_law 1424 [some (.ref sb), some (rf E 0 0 0), some (rf E 29 0 0), some (.int (iI (i : Int)))] [] (hp E m') Q) : T E 20 mL_law 747 [some (.ref sb), some (rf E 0 0 0), some (rf E 29 0 0), some (.int (iI (i : Int)))] [] (hp E m) Q := by
  have hs := hS0 (xs (i + 1)).toInt (xs (i + 2)).toInt (xs (i + 3)).toInt (rg_of _) (rg_of _) (rg_of _) m hg
  refine T.aload_n dL_law_747 rfl ?_
  refine T.aload_n dL_law_748 rfl ?_
  refine T.iload_n dL_law_749 rfl ?_
  refine T.iconst dL_law_750 ?_
  refine T.iadd dL_law_751 ?_
  refine T.sld (j := (i + 1)) dL_law_752 hX (by omega) (by omega) ?_
  refine T.topi (z := (xs ((i + 1))).toInt) (iI_of _).symm ?_
  refine T.aload_n dL_law_753 rfl ?_
  refine T.iload_n dL_law_754 rfl ?_
  refine T.iconst dL_law_755 ?_
  refine T.iadd dL_law_756 ?_
  refine T.sld (j := (i + 2)) dL_law_757 hX (by omega) (by omega) ?_
  refine T.topi (z := (xs ((i + 2))).toInt) (iI_of _).symm ?_
  refine T.aload_n dL_law_758 rfl ?_
  refine T.iload_n dL_law_759 rfl ?_
  refine T.iconst dL_law_760 ?_
  refine T.iadd dL_law_761 ?_
  refine T.sld (j := (i + 3)) dL_law_762 hX (by omega) (by omega) ?_
  refine T.topi (z := (xs ((i + 3))).toInt) (iI_of _).symm ?_
  refine T.cV1 (As := [.int (iI ((xs ((i + 1))).toInt)), .int (iI ((xs ((i + 2))).toInt)), .int (iI ((xs ((i + 3))).toInt))]) (st := []) dL_law_763 lk_L_78 (c_dead E m (xs (i + 1)).toInt (xs (i + 2)).toInt (xs (i + 3)).toInt hg.1 (rg_of _) (rg_of _) (rg_of _)) ok0 rfl rfl (by decide) rfl rfl (Nat.le_of_ble_eq_true rfl) ?_
  refine T.aload_n dL_law_766 rfl ?_
  refine T.aload_n dL_law_767 rfl ?_
  refine T.iload_n dL_law_768 rfl ?_
  refine T.iconst dL_law_769 ?_
  refine T.iadd dL_law_770 ?_
  refine T.sld (j := (i + 1)) dL_law_771 hX (by omega) (by omega) ?_
  refine T.topi (z := (xs ((i + 1))).toInt) (iI_of _).symm ?_
  refine T.aload_n dL_law_772 rfl ?_
  refine T.iload_n dL_law_773 rfl ?_
  refine T.iconst dL_law_774 ?_
  refine T.iadd dL_law_775 ?_
  refine T.sld (j := (i + 2)) dL_law_776 hX (by omega) (by omega) ?_
  refine T.topi (z := (xs ((i + 2))).toInt) (iI_of _).symm ?_
  refine T.aload_n dL_law_777 rfl ?_
  refine T.iload_n dL_law_778 rfl ?_
  refine T.iconst dL_law_779 ?_
  refine T.iadd dL_law_780 ?_
  refine T.sld (j := (i + 3)) dL_law_781 hX (by omega) (by omega) ?_
  refine T.topi (z := (xs ((i + 3))).toInt) (iI_of _).symm ?_
  refine T.cV1 (As := [.int (iI ((xs ((i + 1))).toInt)), .int (iI ((xs ((i + 2))).toInt)), .int (iI ((xs ((i + 3))).toInt))]) (st := [.int (iI (deadR m (xs (i + 1)).toInt (xs (i + 2)).toInt (xs (i + 3)).toInt))]) dL_law_782 lk_L_81 (by have h0 := n_dead E (deadM m (xs (i + 1)).toInt (xs (i + 2)).toInt (xs (i + 3)).toInt) (mv (deadM m (xs (i + 1)).toInt (xs (i + 2)).toInt (xs (i + 3)).toInt)) (xs (i + 1)).toInt (xs (i + 2)).toInt (xs (i + 3)).toInt (fun k x _ => hs.1 k 0 0 x) hs.2.1 (rg_of _) (rg_of _) (rg_of _); rw [wrM_self] at h0; exact h0) ok29 rfl rfl (by decide) rfl rfl (Nat.le_of_ble_eq_true rfl) ?_
  refine T.icmpE 1424 dL_law_785 hs.2.2.1 ?_
  exact hK _ hs.2.2.2
set_option maxHeartbeats 4000000 in
set_option maxRecDepth 100000 in
theorem L_wakes (hS0 : Sim_wakes) (E : Ev) (ad : AD) (hR : ∀ s, E.2.2.2.2 s → RO E.2.2.1 ad s) (sb L : Nat) (xs : Nat → Int32) (hX : ∀ s, E.2.2.2.2 s → SX E sb L xs s) (hL : L ≤ 3584) (N : Nat) (hN : N = 300) (i : Nat) (hi : i + 7 ≤ L) (m : Mem) (hg : Good m) (Q : Option Value → Hp → Prop) (hK : ∀ m', Good m' → T E 20 mL_law 1424 [some (.ref sb), some (rf E 0 0 0), some (rf E 29 0 0), some (.int (iI (i : Int)))] [] (hp E m') Q) : T E 20 mL_law 790 [some (.ref sb), some (rf E 0 0 0), some (rf E 29 0 0), some (.int (iI (i : Int)))] [] (hp E m) Q := by
  have hs := hS0 N hN (xs (i + 1)).toInt (xs (i + 2)).toInt (rg_of _) (rg_of _) m hg
  refine T.aload_n dL_law_790 rfl ?_
  refine T.aload_n dL_law_791 rfl ?_
  refine T.iload_n dL_law_792 rfl ?_
  refine T.iconst dL_law_793 ?_
  refine T.iadd dL_law_794 ?_
  refine T.sld (j := (i + 1)) dL_law_795 hX (by omega) (by omega) ?_
  refine T.topi (z := (xs ((i + 1))).toInt) (iI_of _).symm ?_
  refine T.aload_n dL_law_796 rfl ?_
  refine T.iload_n dL_law_797 rfl ?_
  refine T.iconst dL_law_798 ?_
  refine T.iadd dL_law_799 ?_
  refine T.sld (j := (i + 2)) dL_law_800 hX (by omega) (by omega) ?_
  refine T.topi (z := (xs ((i + 2))).toInt) (iI_of _).symm ?_
  refine T.cV1 (As := [.int (iI ((xs ((i + 1))).toInt)), .int (iI ((xs ((i + 2))).toInt))]) (st := []) dL_law_801 lk_L_82 (c_wakes E m (xs (i + 1)).toInt (xs (i + 2)).toInt hg.1 (rg_of _) (rg_of _)) ok0 rfl rfl (by decide) rfl rfl (Nat.le_of_ble_eq_true rfl) ?_
  refine T.aload_n dL_law_804 rfl ?_
  refine T.aload_n dL_law_805 rfl ?_
  refine T.iload_n dL_law_806 rfl ?_
  refine T.iconst dL_law_807 ?_
  refine T.iadd dL_law_808 ?_
  refine T.sld (j := (i + 1)) dL_law_809 hX (by omega) (by omega) ?_
  refine T.topi (z := (xs ((i + 1))).toInt) (iI_of _).symm ?_
  refine T.aload_n dL_law_810 rfl ?_
  refine T.iload_n dL_law_811 rfl ?_
  refine T.iconst dL_law_812 ?_
  refine T.iadd dL_law_813 ?_
  refine T.sld (j := (i + 2)) dL_law_814 hX (by omega) (by omega) ?_
  refine T.topi (z := (xs ((i + 2))).toInt) (iI_of _).symm ?_
  refine T.cV1 (As := [.int (iI ((xs ((i + 1))).toInt)), .int (iI ((xs ((i + 2))).toInt))]) (st := [.int (iI (wakesR m (xs (i + 1)).toInt (xs (i + 2)).toInt))]) dL_law_815 lk_L_85 (by have h0 := n_wakes E (wakesM m (xs (i + 1)).toInt (xs (i + 2)).toInt) (mv (wakesM m (xs (i + 1)).toInt (xs (i + 2)).toInt)) N (xs (i + 1)).toInt (xs (i + 2)).toInt (fun k x _ => hs.1 k 0 0 x) hN hs.2.1 (rg_of _) (rg_of _); rw [wrM_self] at h0; exact h0) ok29 rfl rfl (by decide) rfl rfl (Nat.le_of_ble_eq_true rfl) ?_
  refine T.icmpE 1424 dL_law_818 hs.2.2.1 ?_
  exact hK _ hs.2.2.2
set_option maxHeartbeats 4000000 in
set_option maxRecDepth 100000 in
theorem L_free (hS0 : Sim_free) (E : Ev) (ad : AD) (hR : ∀ s, E.2.2.2.2 s → RO E.2.2.1 ad s) (sb L : Nat) (xs : Nat → Int32) (hX : ∀ s, E.2.2.2.2 s → SX E sb L xs s) (hL : L ≤ 3584) (N : Nat) (hN : N = 300) (i : Nat) (hi : i + 7 ≤ L) (m : Mem) (hg : Good m) (Q : Option Value → Hp → Prop) (hK : ∀ m', Good m' → T E 20 mL_law 1424 [some (.ref sb), some (rf E 0 0 0), some (rf E 29 0 0), some (.int (iI (i : Int)))] [] (hp E m') Q) : T E 20 mL_law 823 [some (.ref sb), some (rf E 0 0 0), some (rf E 29 0 0), some (.int (iI (i : Int)))] [] (hp E m) Q := by
  have hs := hS0 N hN (xs (i + 1)).toInt (xs (i + 2)).toInt (rg_of _) (rg_of _) m hg
  refine T.aload_n dL_law_823 rfl ?_
  refine T.aload_n dL_law_824 rfl ?_
  refine T.iload_n dL_law_825 rfl ?_
  refine T.iconst dL_law_826 ?_
  refine T.iadd dL_law_827 ?_
  refine T.sld (j := (i + 1)) dL_law_828 hX (by omega) (by omega) ?_
  refine T.topi (z := (xs ((i + 1))).toInt) (iI_of _).symm ?_
  refine T.aload_n dL_law_829 rfl ?_
  refine T.iload_n dL_law_830 rfl ?_
  refine T.iconst dL_law_831 ?_
  refine T.iadd dL_law_832 ?_
  refine T.sld (j := (i + 2)) dL_law_833 hX (by omega) (by omega) ?_
  refine T.topi (z := (xs ((i + 2))).toInt) (iI_of _).symm ?_
  refine T.cV1 (As := [.int (iI ((xs ((i + 1))).toInt)), .int (iI ((xs ((i + 2))).toInt))]) (st := []) dL_law_834 lk_L_86 (c_free E m (xs (i + 1)).toInt (xs (i + 2)).toInt hg.1 (rg_of _) (rg_of _)) ok0 rfl rfl (by decide) rfl rfl (Nat.le_of_ble_eq_true rfl) ?_
  refine T.aload_n dL_law_837 rfl ?_
  refine T.aload_n dL_law_838 rfl ?_
  refine T.iload_n dL_law_839 rfl ?_
  refine T.iconst dL_law_840 ?_
  refine T.iadd dL_law_841 ?_
  refine T.sld (j := (i + 1)) dL_law_842 hX (by omega) (by omega) ?_
  refine T.topi (z := (xs ((i + 1))).toInt) (iI_of _).symm ?_
  refine T.aload_n dL_law_843 rfl ?_
  refine T.iload_n dL_law_844 rfl ?_
  refine T.iconst dL_law_845 ?_
  refine T.iadd dL_law_846 ?_
  refine T.sld (j := (i + 2)) dL_law_847 hX (by omega) (by omega) ?_
  refine T.topi (z := (xs ((i + 2))).toInt) (iI_of _).symm ?_
  refine T.cV1 (As := [.int (iI ((xs ((i + 1))).toInt)), .int (iI ((xs ((i + 2))).toInt))]) (st := [.int (iI (freeR m (xs (i + 1)).toInt (xs (i + 2)).toInt))]) dL_law_848 lk_L_89 (by have h0 := n_free E (freeM m (xs (i + 1)).toInt (xs (i + 2)).toInt) (mv (freeM m (xs (i + 1)).toInt (xs (i + 2)).toInt)) N (xs (i + 1)).toInt (xs (i + 2)).toInt (fun k x _ => hs.1 k 0 0 x) hN hs.2.1 (rg_of _) (rg_of _); rw [wrM_self] at h0; exact h0) ok29 rfl rfl (by decide) rfl rfl (Nat.le_of_ble_eq_true rfl) ?_
  refine T.icmpE 1424 dL_law_851 hs.2.2.1 ?_
  exact hK _ hs.2.2.2
set_option maxHeartbeats 4000000 in
set_option maxRecDepth 100000 in
theorem L_rank (hS0 : Sim_rank) (E : Ev) (ad : AD) (hR : ∀ s, E.2.2.2.2 s → RO E.2.2.1 ad s) (sb L : Nat) (xs : Nat → Int32) (hX : ∀ s, E.2.2.2.2 s → SX E sb L xs s) (hL : L ≤ 3584) (N : Nat) (hN : N = 300) (i : Nat) (hi : i + 7 ≤ L) (m : Mem) (hg : Good m) (Q : Option Value → Hp → Prop) (hK : ∀ m', Good m' → T E 20 mL_law 1424 [some (.ref sb), some (rf E 0 0 0), some (rf E 29 0 0), some (.int (iI (i : Int)))] [] (hp E m') Q) : T E 20 mL_law 856 [some (.ref sb), some (rf E 0 0 0), some (rf E 29 0 0), some (.int (iI (i : Int)))] [] (hp E m) Q := by
  have hs := hS0 (xs (i + 1)).toInt (xs (i + 2)).toInt (xs (i + 3)).toInt (rg_of _) (rg_of _) (rg_of _) m hg
  refine T.aload_n dL_law_856 rfl ?_
  refine T.aload_n dL_law_857 rfl ?_
  refine T.iload_n dL_law_858 rfl ?_
  refine T.iconst dL_law_859 ?_
  refine T.iadd dL_law_860 ?_
  refine T.sld (j := (i + 1)) dL_law_861 hX (by omega) (by omega) ?_
  refine T.topi (z := (xs ((i + 1))).toInt) (iI_of _).symm ?_
  refine T.aload_n dL_law_862 rfl ?_
  refine T.iload_n dL_law_863 rfl ?_
  refine T.iconst dL_law_864 ?_
  refine T.iadd dL_law_865 ?_
  refine T.sld (j := (i + 2)) dL_law_866 hX (by omega) (by omega) ?_
  refine T.topi (z := (xs ((i + 2))).toInt) (iI_of _).symm ?_
  refine T.aload_n dL_law_867 rfl ?_
  refine T.iload_n dL_law_868 rfl ?_
  refine T.iconst dL_law_869 ?_
  refine T.iadd dL_law_870 ?_
  refine T.sld (j := (i + 3)) dL_law_871 hX (by omega) (by omega) ?_
  refine T.topi (z := (xs ((i + 3))).toInt) (iI_of _).symm ?_
  refine T.cV1 (As := [.int (iI ((xs ((i + 1))).toInt)), .int (iI ((xs ((i + 2))).toInt)), .int (iI ((xs ((i + 3))).toInt))]) (st := []) dL_law_872 lk_L_90 (c_rank E m (xs (i + 1)).toInt (xs (i + 2)).toInt (xs (i + 3)).toInt hg.1 (rg_of _) (rg_of _) (rg_of _)) ok0 rfl rfl (by decide) rfl rfl (Nat.le_of_ble_eq_true rfl) ?_
  refine T.aload_n dL_law_875 rfl ?_
  refine T.aload_n dL_law_876 rfl ?_
  refine T.iload_n dL_law_877 rfl ?_
  refine T.iconst dL_law_878 ?_
  refine T.iadd dL_law_879 ?_
  refine T.sld (j := (i + 1)) dL_law_880 hX (by omega) (by omega) ?_
  refine T.topi (z := (xs ((i + 1))).toInt) (iI_of _).symm ?_
  refine T.aload_n dL_law_881 rfl ?_
  refine T.iload_n dL_law_882 rfl ?_
  refine T.iconst dL_law_883 ?_
  refine T.iadd dL_law_884 ?_
  refine T.sld (j := (i + 2)) dL_law_885 hX (by omega) (by omega) ?_
  refine T.topi (z := (xs ((i + 2))).toInt) (iI_of _).symm ?_
  refine T.aload_n dL_law_886 rfl ?_
  refine T.iload_n dL_law_887 rfl ?_
  refine T.iconst dL_law_888 ?_
  refine T.iadd dL_law_889 ?_
  refine T.sld (j := (i + 3)) dL_law_890 hX (by omega) (by omega) ?_
  refine T.topi (z := (xs ((i + 3))).toInt) (iI_of _).symm ?_
  refine T.cV1 (As := [.int (iI ((xs ((i + 1))).toInt)), .int (iI ((xs ((i + 2))).toInt)), .int (iI ((xs ((i + 3))).toInt))]) (st := [.int (iI (rankR m (xs (i + 1)).toInt (xs (i + 2)).toInt (xs (i + 3)).toInt))]) dL_law_891 lk_L_93 (by have h0 := n_rank E (rankM m (xs (i + 1)).toInt (xs (i + 2)).toInt (xs (i + 3)).toInt) (mv (rankM m (xs (i + 1)).toInt (xs (i + 2)).toInt (xs (i + 3)).toInt)) (xs (i + 1)).toInt (xs (i + 2)).toInt (xs (i + 3)).toInt (fun k x _ => hs.1 k 0 0 x) hs.2.1 (rg_of _) (rg_of _) (rg_of _); rw [wrM_self] at h0; exact h0) ok29 rfl rfl (by decide) rfl rfl (Nat.le_of_ble_eq_true rfl) ?_
  refine T.icmpE 1424 dL_law_894 hs.2.2.1 ?_
  exact hK _ hs.2.2.2
set_option maxHeartbeats 4000000 in
set_option maxRecDepth 100000 in
theorem L_best (hS0 : Sim_best) (E : Ev) (ad : AD) (hR : ∀ s, E.2.2.2.2 s → RO E.2.2.1 ad s) (sb L : Nat) (xs : Nat → Int32) (hX : ∀ s, E.2.2.2.2 s → SX E sb L xs s) (hL : L ≤ 3584) (N : Nat) (hN : N = 300) (i : Nat) (hi : i + 7 ≤ L) (m : Mem) (hg : Good m) (Q : Option Value → Hp → Prop) (hK : ∀ m', Good m' → T E 20 mL_law 1424 [some (.ref sb), some (rf E 0 0 0), some (rf E 29 0 0), some (.int (iI (i : Int)))] [] (hp E m') Q) : T E 20 mL_law 899 [some (.ref sb), some (rf E 0 0 0), some (rf E 29 0 0), some (.int (iI (i : Int)))] [] (hp E m) Q := by
  have hs := hS0 (xs (i + 1)).toInt (xs (i + 2)).toInt (xs (i + 3)).toInt (xs (i + 4)).toInt (rg_of _) (rg_of _) (rg_of _) (rg_of _) m hg
  refine T.aload_n dL_law_899 rfl ?_
  refine T.aload_n dL_law_900 rfl ?_
  refine T.iload_n dL_law_901 rfl ?_
  refine T.iconst dL_law_902 ?_
  refine T.iadd dL_law_903 ?_
  refine T.sld (j := (i + 1)) dL_law_904 hX (by omega) (by omega) ?_
  refine T.topi (z := (xs ((i + 1))).toInt) (iI_of _).symm ?_
  refine T.aload_n dL_law_905 rfl ?_
  refine T.iload_n dL_law_906 rfl ?_
  refine T.iconst dL_law_907 ?_
  refine T.iadd dL_law_908 ?_
  refine T.sld (j := (i + 2)) dL_law_909 hX (by omega) (by omega) ?_
  refine T.topi (z := (xs ((i + 2))).toInt) (iI_of _).symm ?_
  refine T.aload_n dL_law_910 rfl ?_
  refine T.iload_n dL_law_911 rfl ?_
  refine T.iconst dL_law_912 ?_
  refine T.iadd dL_law_913 ?_
  refine T.sld (j := (i + 3)) dL_law_914 hX (by omega) (by omega) ?_
  refine T.topi (z := (xs ((i + 3))).toInt) (iI_of _).symm ?_
  refine T.aload_n dL_law_915 rfl ?_
  refine T.iload_n dL_law_916 rfl ?_
  refine T.iconst dL_law_917 ?_
  refine T.iadd dL_law_918 ?_
  refine T.sld (j := (i + 4)) dL_law_919 hX (by omega) (by omega) ?_
  refine T.topi (z := (xs ((i + 4))).toInt) (iI_of _).symm ?_
  refine T.cV1 (As := [.int (iI ((xs ((i + 1))).toInt)), .int (iI ((xs ((i + 2))).toInt)), .int (iI ((xs ((i + 3))).toInt)), .int (iI ((xs ((i + 4))).toInt))]) (st := []) dL_law_920 lk_L_94 (c_best E m (xs (i + 1)).toInt (xs (i + 2)).toInt (xs (i + 3)).toInt (xs (i + 4)).toInt hg.1 (rg_of _) (rg_of _) (rg_of _) (rg_of _)) ok0 rfl rfl (by decide) rfl rfl (Nat.le_of_ble_eq_true rfl) ?_
  refine T.aload_n dL_law_923 rfl ?_
  refine T.aload_n dL_law_924 rfl ?_
  refine T.iload_n dL_law_925 rfl ?_
  refine T.iconst dL_law_926 ?_
  refine T.iadd dL_law_927 ?_
  refine T.sld (j := (i + 1)) dL_law_928 hX (by omega) (by omega) ?_
  refine T.topi (z := (xs ((i + 1))).toInt) (iI_of _).symm ?_
  refine T.aload_n dL_law_929 rfl ?_
  refine T.iload_n dL_law_930 rfl ?_
  refine T.iconst dL_law_931 ?_
  refine T.iadd dL_law_932 ?_
  refine T.sld (j := (i + 2)) dL_law_933 hX (by omega) (by omega) ?_
  refine T.topi (z := (xs ((i + 2))).toInt) (iI_of _).symm ?_
  refine T.aload_n dL_law_934 rfl ?_
  refine T.iload_n dL_law_935 rfl ?_
  refine T.iconst dL_law_936 ?_
  refine T.iadd dL_law_937 ?_
  refine T.sld (j := (i + 3)) dL_law_938 hX (by omega) (by omega) ?_
  refine T.topi (z := (xs ((i + 3))).toInt) (iI_of _).symm ?_
  refine T.aload_n dL_law_939 rfl ?_
  refine T.iload_n dL_law_940 rfl ?_
  refine T.iconst dL_law_941 ?_
  refine T.iadd dL_law_942 ?_
  refine T.sld (j := (i + 4)) dL_law_943 hX (by omega) (by omega) ?_
  refine T.topi (z := (xs ((i + 4))).toInt) (iI_of _).symm ?_
  refine T.cV1 (As := [.int (iI ((xs ((i + 1))).toInt)), .int (iI ((xs ((i + 2))).toInt)), .int (iI ((xs ((i + 3))).toInt)), .int (iI ((xs ((i + 4))).toInt))]) (st := [.int (iI (bestR m (xs (i + 1)).toInt (xs (i + 2)).toInt (xs (i + 3)).toInt (xs (i + 4)).toInt))]) dL_law_944 lk_L_97 (by have h0 := n_best E (bestM m (xs (i + 1)).toInt (xs (i + 2)).toInt (xs (i + 3)).toInt (xs (i + 4)).toInt) (mv (bestM m (xs (i + 1)).toInt (xs (i + 2)).toInt (xs (i + 3)).toInt (xs (i + 4)).toInt)) (xs (i + 1)).toInt (xs (i + 2)).toInt (xs (i + 3)).toInt (xs (i + 4)).toInt (fun k x _ => hs.1 k 0 0 x) hs.2.1 (rg_of _) (rg_of _) (rg_of _) (rg_of _); rw [wrM_self] at h0; exact h0) ok29 rfl rfl (by decide) rfl rfl (Nat.le_of_ble_eq_true rfl) ?_
  refine T.icmpE 1424 dL_law_947 hs.2.2.1 ?_
  exact hK _ hs.2.2.2
set_option maxHeartbeats 4000000 in
set_option maxRecDepth 100000 in
theorem L_least (hS0 : Sim_least) (E : Ev) (ad : AD) (hR : ∀ s, E.2.2.2.2 s → RO E.2.2.1 ad s) (sb L : Nat) (xs : Nat → Int32) (hX : ∀ s, E.2.2.2.2 s → SX E sb L xs s) (hL : L ≤ 3584) (N : Nat) (hN : N = 300) (i : Nat) (hi : i + 7 ≤ L) (m : Mem) (hg : Good m) (Q : Option Value → Hp → Prop) (hK : ∀ m', Good m' → T E 20 mL_law 1424 [some (.ref sb), some (rf E 0 0 0), some (rf E 29 0 0), some (.int (iI (i : Int)))] [] (hp E m') Q) : T E 20 mL_law 952 [some (.ref sb), some (rf E 0 0 0), some (rf E 29 0 0), some (.int (iI (i : Int)))] [] (hp E m) Q := by
  have hs := hS0 (xs (i + 1)).toInt (xs (i + 2)).toInt (xs (i + 3)).toInt (rg_of _) (rg_of _) (rg_of _) m hg
  refine T.aload_n dL_law_952 rfl ?_
  refine T.aload_n dL_law_953 rfl ?_
  refine T.iload_n dL_law_954 rfl ?_
  refine T.iconst dL_law_955 ?_
  refine T.iadd dL_law_956 ?_
  refine T.sld (j := (i + 1)) dL_law_957 hX (by omega) (by omega) ?_
  refine T.topi (z := (xs ((i + 1))).toInt) (iI_of _).symm ?_
  refine T.aload_n dL_law_958 rfl ?_
  refine T.iload_n dL_law_959 rfl ?_
  refine T.iconst dL_law_960 ?_
  refine T.iadd dL_law_961 ?_
  refine T.sld (j := (i + 2)) dL_law_962 hX (by omega) (by omega) ?_
  refine T.topi (z := (xs ((i + 2))).toInt) (iI_of _).symm ?_
  refine T.aload_n dL_law_963 rfl ?_
  refine T.iload_n dL_law_964 rfl ?_
  refine T.iconst dL_law_965 ?_
  refine T.iadd dL_law_966 ?_
  refine T.sld (j := (i + 3)) dL_law_967 hX (by omega) (by omega) ?_
  refine T.topi (z := (xs ((i + 3))).toInt) (iI_of _).symm ?_
  refine T.cV1 (As := [.int (iI ((xs ((i + 1))).toInt)), .int (iI ((xs ((i + 2))).toInt)), .int (iI ((xs ((i + 3))).toInt))]) (st := []) dL_law_968 lk_L_98 (c_least E m (xs (i + 1)).toInt (xs (i + 2)).toInt (xs (i + 3)).toInt hg.1 (rg_of _) (rg_of _) (rg_of _)) ok0 rfl rfl (by decide) rfl rfl (Nat.le_of_ble_eq_true rfl) ?_
  refine T.aload_n dL_law_971 rfl ?_
  refine T.aload_n dL_law_972 rfl ?_
  refine T.iload_n dL_law_973 rfl ?_
  refine T.iconst dL_law_974 ?_
  refine T.iadd dL_law_975 ?_
  refine T.sld (j := (i + 1)) dL_law_976 hX (by omega) (by omega) ?_
  refine T.topi (z := (xs ((i + 1))).toInt) (iI_of _).symm ?_
  refine T.aload_n dL_law_977 rfl ?_
  refine T.iload_n dL_law_978 rfl ?_
  refine T.iconst dL_law_979 ?_
  refine T.iadd dL_law_980 ?_
  refine T.sld (j := (i + 2)) dL_law_981 hX (by omega) (by omega) ?_
  refine T.topi (z := (xs ((i + 2))).toInt) (iI_of _).symm ?_
  refine T.aload_n dL_law_982 rfl ?_
  refine T.iload_n dL_law_983 rfl ?_
  refine T.iconst dL_law_984 ?_
  refine T.iadd dL_law_985 ?_
  refine T.sld (j := (i + 3)) dL_law_986 hX (by omega) (by omega) ?_
  refine T.topi (z := (xs ((i + 3))).toInt) (iI_of _).symm ?_
  refine T.cV1 (As := [.int (iI ((xs ((i + 1))).toInt)), .int (iI ((xs ((i + 2))).toInt)), .int (iI ((xs ((i + 3))).toInt))]) (st := [.long (lI (leastR m (xs (i + 1)).toInt (xs (i + 2)).toInt (xs (i + 3)).toInt))]) dL_law_987 lk_L_102 (by have h0 := n_least E (leastM m (xs (i + 1)).toInt (xs (i + 2)).toInt (xs (i + 3)).toInt) (mv (leastM m (xs (i + 1)).toInt (xs (i + 2)).toInt (xs (i + 3)).toInt)) (xs (i + 1)).toInt (xs (i + 2)).toInt (xs (i + 3)).toInt (fun k x _ => hs.1 k 0 0 x) hs.2.1 (rg_of _) (rg_of _) (rg_of _); rw [wrM_self] at h0; exact h0) ok29 rfl rfl (by decide) rfl rfl (Nat.le_of_ble_eq_true rfl) ?_
  refine T.lcmpE 1424 dL_law_990 dL_law_991 hs.2.2.1 ?_
  exact hK _ hs.2.2.2
set_option maxHeartbeats 4000000 in
set_option maxRecDepth 100000 in
theorem L_answer (hS0 : Sim_answer) (E : Ev) (ad : AD) (hR : ∀ s, E.2.2.2.2 s → RO E.2.2.1 ad s) (sb L : Nat) (xs : Nat → Int32) (hX : ∀ s, E.2.2.2.2 s → SX E sb L xs s) (hL : L ≤ 3584) (N : Nat) (hN : N = 300) (i : Nat) (hi : i + 7 ≤ L) (m : Mem) (hg : Good m) (Q : Option Value → Hp → Prop) (hK : ∀ m', Good m' → T E 20 mL_law 1424 [some (.ref sb), some (rf E 0 0 0), some (rf E 29 0 0), some (.int (iI (i : Int)))] [] (hp E m') Q) : T E 20 mL_law 996 [some (.ref sb), some (rf E 0 0 0), some (rf E 29 0 0), some (.int (iI (i : Int)))] [] (hp E m) Q := by
  have hs := hS0 (xs (i + 1)).toInt (xs (i + 2)).toInt (xs (i + 3)).toInt (rg_of _) (rg_of _) (rg_of _) m hg
  refine T.aload_n dL_law_996 rfl ?_
  refine T.aload_n dL_law_997 rfl ?_
  refine T.iload_n dL_law_998 rfl ?_
  refine T.iconst dL_law_999 ?_
  refine T.iadd dL_law_1000 ?_
  refine T.sld (j := (i + 1)) dL_law_1001 hX (by omega) (by omega) ?_
  refine T.topi (z := (xs ((i + 1))).toInt) (iI_of _).symm ?_
  refine T.aload_n dL_law_1002 rfl ?_
  refine T.iload_n dL_law_1003 rfl ?_
  refine T.iconst dL_law_1004 ?_
  refine T.iadd dL_law_1005 ?_
  refine T.sld (j := (i + 2)) dL_law_1006 hX (by omega) (by omega) ?_
  refine T.topi (z := (xs ((i + 2))).toInt) (iI_of _).symm ?_
  refine T.aload_n dL_law_1007 rfl ?_
  refine T.iload_n dL_law_1008 rfl ?_
  refine T.iconst dL_law_1009 ?_
  refine T.iadd dL_law_1010 ?_
  refine T.sld (j := (i + 3)) dL_law_1011 hX (by omega) (by omega) ?_
  refine T.topi (z := (xs ((i + 3))).toInt) (iI_of _).symm ?_
  refine T.cV1 (As := [.int (iI ((xs ((i + 1))).toInt)), .int (iI ((xs ((i + 2))).toInt)), .int (iI ((xs ((i + 3))).toInt))]) (st := []) dL_law_1012 lk_L_103 (c_answer E m (xs (i + 1)).toInt (xs (i + 2)).toInt (xs (i + 3)).toInt hg.1 (rg_of _) (rg_of _) (rg_of _)) ok0 rfl rfl (by decide) rfl rfl (Nat.le_of_ble_eq_true rfl) ?_
  refine T.aload_n dL_law_1015 rfl ?_
  refine T.aload_n dL_law_1016 rfl ?_
  refine T.iload_n dL_law_1017 rfl ?_
  refine T.iconst dL_law_1018 ?_
  refine T.iadd dL_law_1019 ?_
  refine T.sld (j := (i + 1)) dL_law_1020 hX (by omega) (by omega) ?_
  refine T.topi (z := (xs ((i + 1))).toInt) (iI_of _).symm ?_
  refine T.aload_n dL_law_1021 rfl ?_
  refine T.iload_n dL_law_1022 rfl ?_
  refine T.iconst dL_law_1023 ?_
  refine T.iadd dL_law_1024 ?_
  refine T.sld (j := (i + 2)) dL_law_1025 hX (by omega) (by omega) ?_
  refine T.topi (z := (xs ((i + 2))).toInt) (iI_of _).symm ?_
  refine T.aload_n dL_law_1026 rfl ?_
  refine T.iload_n dL_law_1027 rfl ?_
  refine T.iconst dL_law_1028 ?_
  refine T.iadd dL_law_1029 ?_
  refine T.sld (j := (i + 3)) dL_law_1030 hX (by omega) (by omega) ?_
  refine T.topi (z := (xs ((i + 3))).toInt) (iI_of _).symm ?_
  refine T.cV1 (As := [.int (iI ((xs ((i + 1))).toInt)), .int (iI ((xs ((i + 2))).toInt)), .int (iI ((xs ((i + 3))).toInt))]) (st := [.int (iI (answerR m (xs (i + 1)).toInt (xs (i + 2)).toInt (xs (i + 3)).toInt))]) dL_law_1031 lk_L_106 (by have h0 := n_answer E (answerM m (xs (i + 1)).toInt (xs (i + 2)).toInt (xs (i + 3)).toInt) (mv (answerM m (xs (i + 1)).toInt (xs (i + 2)).toInt (xs (i + 3)).toInt)) (xs (i + 1)).toInt (xs (i + 2)).toInt (xs (i + 3)).toInt (fun k x _ => hs.1 k 0 0 x) hs.2.1 (rg_of _) (rg_of _) (rg_of _); rw [wrM_self] at h0; exact h0) ok29 rfl rfl (by decide) rfl rfl (Nat.le_of_ble_eq_true rfl) ?_
  refine T.icmpE 1424 dL_law_1034 hs.2.2.1 ?_
  exact hK _ hs.2.2.2
set_option maxHeartbeats 4000000 in
set_option maxRecDepth 100000 in
theorem L_hangs (hS0 : Sim_hangs) (E : Ev) (ad : AD) (hR : ∀ s, E.2.2.2.2 s → RO E.2.2.1 ad s) (sb L : Nat) (xs : Nat → Int32) (hX : ∀ s, E.2.2.2.2 s → SX E sb L xs s) (hL : L ≤ 3584) (N : Nat) (hN : N = 300) (i : Nat) (hi : i + 7 ≤ L) (m : Mem) (hg : Good m) (Q : Option Value → Hp → Prop) (hK : ∀ m', Good m' → T E 20 mL_law 1424 [some (.ref sb), some (rf E 0 0 0), some (rf E 29 0 0), some (.int (iI (i : Int)))] [] (hp E m') Q) : T E 20 mL_law 1039 [some (.ref sb), some (rf E 0 0 0), some (rf E 29 0 0), some (.int (iI (i : Int)))] [] (hp E m) Q := by
  have hs := hS0 (xs (i + 1)).toInt (xs (i + 2)).toInt (xs (i + 3)).toInt (xs (i + 4)).toInt (xs (i + 5)).toInt (xs (i + 6)).toInt (rg_of _) (rg_of _) (rg_of _) (rg_of _) (rg_of _) (rg_of _) m hg
  refine T.aload_n dL_law_1039 rfl ?_
  refine T.aload_n dL_law_1040 rfl ?_
  refine T.iload_n dL_law_1041 rfl ?_
  refine T.iconst dL_law_1042 ?_
  refine T.iadd dL_law_1043 ?_
  refine T.sld (j := (i + 1)) dL_law_1044 hX (by omega) (by omega) ?_
  refine T.topi (z := (xs ((i + 1))).toInt) (iI_of _).symm ?_
  refine T.aload_n dL_law_1045 rfl ?_
  refine T.iload_n dL_law_1046 rfl ?_
  refine T.iconst dL_law_1047 ?_
  refine T.iadd dL_law_1048 ?_
  refine T.sld (j := (i + 2)) dL_law_1049 hX (by omega) (by omega) ?_
  refine T.topi (z := (xs ((i + 2))).toInt) (iI_of _).symm ?_
  refine T.aload_n dL_law_1050 rfl ?_
  refine T.iload_n dL_law_1051 rfl ?_
  refine T.iconst dL_law_1052 ?_
  refine T.iadd dL_law_1053 ?_
  refine T.sld (j := (i + 3)) dL_law_1054 hX (by omega) (by omega) ?_
  refine T.topi (z := (xs ((i + 3))).toInt) (iI_of _).symm ?_
  refine T.aload_n dL_law_1055 rfl ?_
  refine T.iload_n dL_law_1056 rfl ?_
  refine T.iconst dL_law_1057 ?_
  refine T.iadd dL_law_1058 ?_
  refine T.sld (j := (i + 4)) dL_law_1059 hX (by omega) (by omega) ?_
  refine T.topi (z := (xs ((i + 4))).toInt) (iI_of _).symm ?_
  refine T.aload_n dL_law_1060 rfl ?_
  refine T.iload_n dL_law_1061 rfl ?_
  refine T.iconst dL_law_1062 ?_
  refine T.iadd dL_law_1063 ?_
  refine T.sld (j := (i + 5)) dL_law_1064 hX (by omega) (by omega) ?_
  refine T.topi (z := (xs ((i + 5))).toInt) (iI_of _).symm ?_
  refine T.aload_n dL_law_1065 rfl ?_
  refine T.iload_n dL_law_1066 rfl ?_
  refine T.bipush dL_law_1067 ?_
  refine T.iadd dL_law_1069 ?_
  refine T.sld (j := (i + 6)) dL_law_1070 hX (by omega) (by omega) ?_
  refine T.topi (z := (xs ((i + 6))).toInt) (iI_of _).symm ?_
  refine T.cV1 (As := [.int (iI ((xs ((i + 1))).toInt)), .int (iI ((xs ((i + 2))).toInt)), .int (iI ((xs ((i + 3))).toInt)), .int (iI ((xs ((i + 4))).toInt)), .int (iI ((xs ((i + 5))).toInt)), .int (iI ((xs ((i + 6))).toInt))]) (st := []) dL_law_1071 lk_L_107 (c_hangs E m (xs (i + 1)).toInt (xs (i + 2)).toInt (xs (i + 3)).toInt (xs (i + 4)).toInt (xs (i + 5)).toInt (xs (i + 6)).toInt hg.1 (rg_of _) (rg_of _) (rg_of _) (rg_of _) (rg_of _) (rg_of _)) ok0 rfl rfl (by decide) rfl rfl (Nat.le_of_ble_eq_true rfl) ?_
  refine T.aload_n dL_law_1074 rfl ?_
  refine T.aload_n dL_law_1075 rfl ?_
  refine T.iload_n dL_law_1076 rfl ?_
  refine T.iconst dL_law_1077 ?_
  refine T.iadd dL_law_1078 ?_
  refine T.sld (j := (i + 1)) dL_law_1079 hX (by omega) (by omega) ?_
  refine T.topi (z := (xs ((i + 1))).toInt) (iI_of _).symm ?_
  refine T.aload_n dL_law_1080 rfl ?_
  refine T.iload_n dL_law_1081 rfl ?_
  refine T.iconst dL_law_1082 ?_
  refine T.iadd dL_law_1083 ?_
  refine T.sld (j := (i + 2)) dL_law_1084 hX (by omega) (by omega) ?_
  refine T.topi (z := (xs ((i + 2))).toInt) (iI_of _).symm ?_
  refine T.aload_n dL_law_1085 rfl ?_
  refine T.iload_n dL_law_1086 rfl ?_
  refine T.iconst dL_law_1087 ?_
  refine T.iadd dL_law_1088 ?_
  refine T.sld (j := (i + 3)) dL_law_1089 hX (by omega) (by omega) ?_
  refine T.topi (z := (xs ((i + 3))).toInt) (iI_of _).symm ?_
  refine T.aload_n dL_law_1090 rfl ?_
  refine T.iload_n dL_law_1091 rfl ?_
  refine T.iconst dL_law_1092 ?_
  refine T.iadd dL_law_1093 ?_
  refine T.sld (j := (i + 4)) dL_law_1094 hX (by omega) (by omega) ?_
  refine T.topi (z := (xs ((i + 4))).toInt) (iI_of _).symm ?_
  refine T.aload_n dL_law_1095 rfl ?_
  refine T.iload_n dL_law_1096 rfl ?_
  refine T.iconst dL_law_1097 ?_
  refine T.iadd dL_law_1098 ?_
  refine T.sld (j := (i + 5)) dL_law_1099 hX (by omega) (by omega) ?_
  refine T.topi (z := (xs ((i + 5))).toInt) (iI_of _).symm ?_
  refine T.aload_n dL_law_1100 rfl ?_
  refine T.iload_n dL_law_1101 rfl ?_
  refine T.bipush dL_law_1102 ?_
  refine T.iadd dL_law_1104 ?_
  refine T.sld (j := (i + 6)) dL_law_1105 hX (by omega) (by omega) ?_
  refine T.topi (z := (xs ((i + 6))).toInt) (iI_of _).symm ?_
  refine T.cV1 (As := [.int (iI ((xs ((i + 1))).toInt)), .int (iI ((xs ((i + 2))).toInt)), .int (iI ((xs ((i + 3))).toInt)), .int (iI ((xs ((i + 4))).toInt)), .int (iI ((xs ((i + 5))).toInt)), .int (iI ((xs ((i + 6))).toInt))]) (st := [.long (lI (hangsR m (xs (i + 1)).toInt (xs (i + 2)).toInt (xs (i + 3)).toInt (xs (i + 4)).toInt (xs (i + 5)).toInt (xs (i + 6)).toInt))]) dL_law_1106 lk_L_111 (by have h0 := n_hangs E (hangsM m (xs (i + 1)).toInt (xs (i + 2)).toInt (xs (i + 3)).toInt (xs (i + 4)).toInt (xs (i + 5)).toInt (xs (i + 6)).toInt) (mv (hangsM m (xs (i + 1)).toInt (xs (i + 2)).toInt (xs (i + 3)).toInt (xs (i + 4)).toInt (xs (i + 5)).toInt (xs (i + 6)).toInt)) (xs (i + 1)).toInt (xs (i + 2)).toInt (xs (i + 3)).toInt (xs (i + 4)).toInt (xs (i + 5)).toInt (xs (i + 6)).toInt (fun k x _ => hs.1 k 0 0 x) hs.2.1 (rg_of _) (rg_of _) (rg_of _) (rg_of _) (rg_of _) (rg_of _); rw [wrM_self] at h0; exact h0) ok29 rfl rfl (by decide) rfl rfl (Nat.le_of_ble_eq_true rfl) ?_
  refine T.lcmpE 1424 dL_law_1109 dL_law_1110 hs.2.2.1 ?_
  exact hK _ hs.2.2.2
set_option maxHeartbeats 4000000 in
set_option maxRecDepth 100000 in
theorem L_plan (hS0 : Sim_plan) (E : Ev) (ad : AD) (hR : ∀ s, E.2.2.2.2 s → RO E.2.2.1 ad s) (sb L : Nat) (xs : Nat → Int32) (hX : ∀ s, E.2.2.2.2 s → SX E sb L xs s) (hL : L ≤ 3584) (N : Nat) (hN : N = 300) (i : Nat) (hi : i + 7 ≤ L) (m : Mem) (hg : Good m) (Q : Option Value → Hp → Prop) (hK : ∀ m', Good m' → T E 20 mL_law 1424 [some (.ref sb), some (rf E 0 0 0), some (rf E 29 0 0), some (.int (iI (i : Int)))] [] (hp E m') Q) : T E 20 mL_law 1115 [some (.ref sb), some (rf E 0 0 0), some (rf E 29 0 0), some (.int (iI (i : Int)))] [] (hp E m) Q := by
  have hs := hS0 N hN (xs (i + 1)).toInt (xs (i + 2)).toInt (xs (i + 3)).toInt (xs (i + 4)).toInt (xs (i + 5)).toInt (rg_of _) (rg_of _) (rg_of _) (rg_of _) (rg_of _) m hg
  refine T.aload_n dL_law_1115 rfl ?_
  refine T.aload_n dL_law_1116 rfl ?_
  refine T.iload_n dL_law_1117 rfl ?_
  refine T.iconst dL_law_1118 ?_
  refine T.iadd dL_law_1119 ?_
  refine T.sld (j := (i + 1)) dL_law_1120 hX (by omega) (by omega) ?_
  refine T.topi (z := (xs ((i + 1))).toInt) (iI_of _).symm ?_
  refine T.aload_n dL_law_1121 rfl ?_
  refine T.iload_n dL_law_1122 rfl ?_
  refine T.iconst dL_law_1123 ?_
  refine T.iadd dL_law_1124 ?_
  refine T.sld (j := (i + 2)) dL_law_1125 hX (by omega) (by omega) ?_
  refine T.topi (z := (xs ((i + 2))).toInt) (iI_of _).symm ?_
  refine T.aload_n dL_law_1126 rfl ?_
  refine T.iload_n dL_law_1127 rfl ?_
  refine T.iconst dL_law_1128 ?_
  refine T.iadd dL_law_1129 ?_
  refine T.sld (j := (i + 3)) dL_law_1130 hX (by omega) (by omega) ?_
  refine T.topi (z := (xs ((i + 3))).toInt) (iI_of _).symm ?_
  refine T.aload_n dL_law_1131 rfl ?_
  refine T.iload_n dL_law_1132 rfl ?_
  refine T.iconst dL_law_1133 ?_
  refine T.iadd dL_law_1134 ?_
  refine T.sld (j := (i + 4)) dL_law_1135 hX (by omega) (by omega) ?_
  refine T.topi (z := (xs ((i + 4))).toInt) (iI_of _).symm ?_
  refine T.aload_n dL_law_1136 rfl ?_
  refine T.iload_n dL_law_1137 rfl ?_
  refine T.iconst dL_law_1138 ?_
  refine T.iadd dL_law_1139 ?_
  refine T.sld (j := (i + 5)) dL_law_1140 hX (by omega) (by omega) ?_
  refine T.topi (z := (xs ((i + 5))).toInt) (iI_of _).symm ?_
  refine T.cV1 (As := [.int (iI ((xs ((i + 1))).toInt)), .int (iI ((xs ((i + 2))).toInt)), .int (iI ((xs ((i + 3))).toInt)), .int (iI ((xs ((i + 4))).toInt)), .int (iI ((xs ((i + 5))).toInt))]) (st := []) dL_law_1141 lk_L_112 (c_plan E m (xs (i + 1)).toInt (xs (i + 2)).toInt (xs (i + 3)).toInt (xs (i + 4)).toInt (xs (i + 5)).toInt hg.1 (rg_of _) (rg_of _) (rg_of _) (rg_of _) (rg_of _)) ok0 rfl rfl (by decide) rfl rfl (Nat.le_of_ble_eq_true rfl) ?_
  refine T.aload_n dL_law_1144 rfl ?_
  refine T.aload_n dL_law_1145 rfl ?_
  refine T.iload_n dL_law_1146 rfl ?_
  refine T.iconst dL_law_1147 ?_
  refine T.iadd dL_law_1148 ?_
  refine T.sld (j := (i + 1)) dL_law_1149 hX (by omega) (by omega) ?_
  refine T.topi (z := (xs ((i + 1))).toInt) (iI_of _).symm ?_
  refine T.aload_n dL_law_1150 rfl ?_
  refine T.iload_n dL_law_1151 rfl ?_
  refine T.iconst dL_law_1152 ?_
  refine T.iadd dL_law_1153 ?_
  refine T.sld (j := (i + 2)) dL_law_1154 hX (by omega) (by omega) ?_
  refine T.topi (z := (xs ((i + 2))).toInt) (iI_of _).symm ?_
  refine T.aload_n dL_law_1155 rfl ?_
  refine T.iload_n dL_law_1156 rfl ?_
  refine T.iconst dL_law_1157 ?_
  refine T.iadd dL_law_1158 ?_
  refine T.sld (j := (i + 3)) dL_law_1159 hX (by omega) (by omega) ?_
  refine T.topi (z := (xs ((i + 3))).toInt) (iI_of _).symm ?_
  refine T.aload_n dL_law_1160 rfl ?_
  refine T.iload_n dL_law_1161 rfl ?_
  refine T.iconst dL_law_1162 ?_
  refine T.iadd dL_law_1163 ?_
  refine T.sld (j := (i + 4)) dL_law_1164 hX (by omega) (by omega) ?_
  refine T.topi (z := (xs ((i + 4))).toInt) (iI_of _).symm ?_
  refine T.aload_n dL_law_1165 rfl ?_
  refine T.iload_n dL_law_1166 rfl ?_
  refine T.iconst dL_law_1167 ?_
  refine T.iadd dL_law_1168 ?_
  refine T.sld (j := (i + 5)) dL_law_1169 hX (by omega) (by omega) ?_
  refine T.topi (z := (xs ((i + 5))).toInt) (iI_of _).symm ?_
  refine T.cV1 (As := [.int (iI ((xs ((i + 1))).toInt)), .int (iI ((xs ((i + 2))).toInt)), .int (iI ((xs ((i + 3))).toInt)), .int (iI ((xs ((i + 4))).toInt)), .int (iI ((xs ((i + 5))).toInt))]) (st := [.long (lI (planR m (xs (i + 1)).toInt (xs (i + 2)).toInt (xs (i + 3)).toInt (xs (i + 4)).toInt (xs (i + 5)).toInt))]) dL_law_1170 lk_L_116 (by have h0 := n_plan E (planM m (xs (i + 1)).toInt (xs (i + 2)).toInt (xs (i + 3)).toInt (xs (i + 4)).toInt (xs (i + 5)).toInt) (mv (planM m (xs (i + 1)).toInt (xs (i + 2)).toInt (xs (i + 3)).toInt (xs (i + 4)).toInt (xs (i + 5)).toInt)) N (xs (i + 1)).toInt (xs (i + 2)).toInt (xs (i + 3)).toInt (xs (i + 4)).toInt (xs (i + 5)).toInt (fun k x _ => hs.1 k 0 0 x) hN hs.2.1 (rg_of _) (rg_of _) (rg_of _) (rg_of _) (rg_of _); rw [wrM_self] at h0; exact h0) ok29 rfl rfl (by decide) rfl rfl (Nat.le_of_ble_eq_true rfl) ?_
  refine T.lcmpE 1424 dL_law_1173 dL_law_1174 hs.2.2.1 ?_
  exact hK _ hs.2.2.2
set_option maxHeartbeats 4000000 in
set_option maxRecDepth 100000 in
theorem L_parts (hS0 : Sim_parts) (E : Ev) (ad : AD) (hR : ∀ s, E.2.2.2.2 s → RO E.2.2.1 ad s) (sb L : Nat) (xs : Nat → Int32) (hX : ∀ s, E.2.2.2.2 s → SX E sb L xs s) (hL : L ≤ 3584) (N : Nat) (hN : N = 300) (i : Nat) (hi : i + 7 ≤ L) (m : Mem) (hg : Good m) (Q : Option Value → Hp → Prop) (hK : ∀ m', Good m' → T E 20 mL_law 1424 [some (.ref sb), some (rf E 0 0 0), some (rf E 29 0 0), some (.int (iI (i : Int)))] [] (hp E m') Q) : T E 20 mL_law 1179 [some (.ref sb), some (rf E 0 0 0), some (rf E 29 0 0), some (.int (iI (i : Int)))] [] (hp E m) Q := by
  have hs := hS0 N hN m hg
  refine T.aload_n dL_law_1179 rfl ?_
  refine T.cV1 (As := []) (st := []) dL_law_1180 lk_L_117 (c_parts E m  hg.1 ) ok0 rfl rfl (by decide) rfl rfl (Nat.le_of_ble_eq_true rfl) ?_
  refine T.aload_n dL_law_1183 rfl ?_
  refine T.cV1 (As := []) (st := [.int (iI (partsR m))]) dL_law_1184 lk_L_121 (by have h0 := n_parts E (partsM m) (mv (partsM m)) N  (fun k x _ => hs.1 k 0 0 x) hN hs.2.1 ; rw [wrM_self] at h0; exact h0) ok29 rfl rfl (by decide) rfl rfl (Nat.le_of_ble_eq_true rfl) ?_
  refine T.icmpE 1424 dL_law_1187 hs.2.2.1 ?_
  exact hK _ hs.2.2.2
set_option maxHeartbeats 4000000 in
set_option maxRecDepth 100000 in
theorem L_gap (hS0 : Sim_gap) (E : Ev) (ad : AD) (hR : ∀ s, E.2.2.2.2 s → RO E.2.2.1 ad s) (sb L : Nat) (xs : Nat → Int32) (hX : ∀ s, E.2.2.2.2 s → SX E sb L xs s) (hL : L ≤ 3584) (N : Nat) (hN : N = 300) (i : Nat) (hi : i + 7 ≤ L) (m : Mem) (hg : Good m) (Q : Option Value → Hp → Prop) (hK : ∀ m', Good m' → T E 20 mL_law 1424 [some (.ref sb), some (rf E 0 0 0), some (rf E 29 0 0), some (.int (iI (i : Int)))] [] (hp E m') Q) : T E 20 mL_law 1192 [some (.ref sb), some (rf E 0 0 0), some (rf E 29 0 0), some (.int (iI (i : Int)))] [] (hp E m) Q := by
  have hs := hS0 (xs (i + 1)).toInt (rg_of _) m hg
  refine T.aload_n dL_law_1192 rfl ?_
  refine T.aload_n dL_law_1193 rfl ?_
  refine T.iload_n dL_law_1194 rfl ?_
  refine T.iconst dL_law_1195 ?_
  refine T.iadd dL_law_1196 ?_
  refine T.sld (j := (i + 1)) dL_law_1197 hX (by omega) (by omega) ?_
  refine T.topi (z := (xs ((i + 1))).toInt) (iI_of _).symm ?_
  refine T.cV1 (As := [.int (iI ((xs ((i + 1))).toInt))]) (st := []) dL_law_1198 lk_L_122 (c_gap E m (xs (i + 1)).toInt hg.1 (rg_of _)) ok0 rfl rfl (by decide) rfl rfl (Nat.le_of_ble_eq_true rfl) ?_
  refine T.aload_n dL_law_1201 rfl ?_
  refine T.aload_n dL_law_1202 rfl ?_
  refine T.iload_n dL_law_1203 rfl ?_
  refine T.iconst dL_law_1204 ?_
  refine T.iadd dL_law_1205 ?_
  refine T.sld (j := (i + 1)) dL_law_1206 hX (by omega) (by omega) ?_
  refine T.topi (z := (xs ((i + 1))).toInt) (iI_of _).symm ?_
  refine T.cV1 (As := [.int (iI ((xs ((i + 1))).toInt))]) (st := [.long (lI (gapR m (xs (i + 1)).toInt))]) dL_law_1207 lk_L_126 (by have h0 := n_gap E (gapM m (xs (i + 1)).toInt) (mv (gapM m (xs (i + 1)).toInt)) (xs (i + 1)).toInt (fun k x _ => hs.1 k 0 0 x) hs.2.1 (rg_of _); rw [wrM_self] at h0; exact h0) ok29 rfl rfl (by decide) rfl rfl (Nat.le_of_ble_eq_true rfl) ?_
  refine T.lcmpE 1424 dL_law_1210 dL_law_1211 hs.2.2.1 ?_
  exact hK _ hs.2.2.2
set_option maxHeartbeats 4000000 in
set_option maxRecDepth 100000 in
theorem L_judge (hS0 : Sim_judge) (E : Ev) (ad : AD) (hR : ∀ s, E.2.2.2.2 s → RO E.2.2.1 ad s) (sb L : Nat) (xs : Nat → Int32) (hX : ∀ s, E.2.2.2.2 s → SX E sb L xs s) (hL : L ≤ 3584) (N : Nat) (hN : N = 300) (i : Nat) (hi : i + 7 ≤ L) (m : Mem) (hg : Good m) (Q : Option Value → Hp → Prop) (hK : ∀ m', Good m' → T E 20 mL_law 1424 [some (.ref sb), some (rf E 0 0 0), some (rf E 29 0 0), some (.int (iI (i : Int)))] [] (hp E m') Q) : T E 20 mL_law 1216 [some (.ref sb), some (rf E 0 0 0), some (rf E 29 0 0), some (.int (iI (i : Int)))] [] (hp E m) Q := by
  have hs := hS0 (xs (i + 1)).toInt (xs (i + 2)).toInt (xs (i + 3)).toInt (xs (i + 4)).toInt (xs (i + 5)).toInt (rg_of _) (rg_of _) (rg_of _) (rg_of _) (rg_of _) m hg
  refine T.aload_n dL_law_1216 rfl ?_
  refine T.aload_n dL_law_1217 rfl ?_
  refine T.iload_n dL_law_1218 rfl ?_
  refine T.iconst dL_law_1219 ?_
  refine T.iadd dL_law_1220 ?_
  refine T.sld (j := (i + 1)) dL_law_1221 hX (by omega) (by omega) ?_
  refine T.topi (z := (xs ((i + 1))).toInt) (iI_of _).symm ?_
  refine T.aload_n dL_law_1222 rfl ?_
  refine T.iload_n dL_law_1223 rfl ?_
  refine T.iconst dL_law_1224 ?_
  refine T.iadd dL_law_1225 ?_
  refine T.sld (j := (i + 2)) dL_law_1226 hX (by omega) (by omega) ?_
  refine T.topi (z := (xs ((i + 2))).toInt) (iI_of _).symm ?_
  refine T.aload_n dL_law_1227 rfl ?_
  refine T.iload_n dL_law_1228 rfl ?_
  refine T.iconst dL_law_1229 ?_
  refine T.iadd dL_law_1230 ?_
  refine T.sld (j := (i + 3)) dL_law_1231 hX (by omega) (by omega) ?_
  refine T.topi (z := (xs ((i + 3))).toInt) (iI_of _).symm ?_
  refine T.aload_n dL_law_1232 rfl ?_
  refine T.iload_n dL_law_1233 rfl ?_
  refine T.iconst dL_law_1234 ?_
  refine T.iadd dL_law_1235 ?_
  refine T.sld (j := (i + 4)) dL_law_1236 hX (by omega) (by omega) ?_
  refine T.topi (z := (xs ((i + 4))).toInt) (iI_of _).symm ?_
  refine T.aload_n dL_law_1237 rfl ?_
  refine T.iload_n dL_law_1238 rfl ?_
  refine T.iconst dL_law_1239 ?_
  refine T.iadd dL_law_1240 ?_
  refine T.sld (j := (i + 5)) dL_law_1241 hX (by omega) (by omega) ?_
  refine T.topi (z := (xs ((i + 5))).toInt) (iI_of _).symm ?_
  refine T.cV1 (As := [.int (iI ((xs ((i + 1))).toInt)), .int (iI ((xs ((i + 2))).toInt)), .int (iI ((xs ((i + 3))).toInt)), .int (iI ((xs ((i + 4))).toInt)), .int (iI ((xs ((i + 5))).toInt))]) (st := []) dL_law_1242 lk_L_127 (c_judge E m (xs (i + 1)).toInt (xs (i + 2)).toInt (xs (i + 3)).toInt (xs (i + 4)).toInt (xs (i + 5)).toInt hg.1 (rg_of _) (rg_of _) (rg_of _) (rg_of _) (rg_of _)) ok0 rfl rfl (by decide) rfl rfl (Nat.le_of_ble_eq_true rfl) ?_
  refine T.aload_n dL_law_1245 rfl ?_
  refine T.aload_n dL_law_1246 rfl ?_
  refine T.iload_n dL_law_1247 rfl ?_
  refine T.iconst dL_law_1248 ?_
  refine T.iadd dL_law_1249 ?_
  refine T.sld (j := (i + 1)) dL_law_1250 hX (by omega) (by omega) ?_
  refine T.topi (z := (xs ((i + 1))).toInt) (iI_of _).symm ?_
  refine T.aload_n dL_law_1251 rfl ?_
  refine T.iload_n dL_law_1252 rfl ?_
  refine T.iconst dL_law_1253 ?_
  refine T.iadd dL_law_1254 ?_
  refine T.sld (j := (i + 2)) dL_law_1255 hX (by omega) (by omega) ?_
  refine T.topi (z := (xs ((i + 2))).toInt) (iI_of _).symm ?_
  refine T.aload_n dL_law_1256 rfl ?_
  refine T.iload_n dL_law_1257 rfl ?_
  refine T.iconst dL_law_1258 ?_
  refine T.iadd dL_law_1259 ?_
  refine T.sld (j := (i + 3)) dL_law_1260 hX (by omega) (by omega) ?_
  refine T.topi (z := (xs ((i + 3))).toInt) (iI_of _).symm ?_
  refine T.aload_n dL_law_1261 rfl ?_
  refine T.iload_n dL_law_1262 rfl ?_
  refine T.iconst dL_law_1263 ?_
  refine T.iadd dL_law_1264 ?_
  refine T.sld (j := (i + 4)) dL_law_1265 hX (by omega) (by omega) ?_
  refine T.topi (z := (xs ((i + 4))).toInt) (iI_of _).symm ?_
  refine T.aload_n dL_law_1266 rfl ?_
  refine T.iload_n dL_law_1267 rfl ?_
  refine T.iconst dL_law_1268 ?_
  refine T.iadd dL_law_1269 ?_
  refine T.sld (j := (i + 5)) dL_law_1270 hX (by omega) (by omega) ?_
  refine T.topi (z := (xs ((i + 5))).toInt) (iI_of _).symm ?_
  refine T.cV1 (As := [.int (iI ((xs ((i + 1))).toInt)), .int (iI ((xs ((i + 2))).toInt)), .int (iI ((xs ((i + 3))).toInt)), .int (iI ((xs ((i + 4))).toInt)), .int (iI ((xs ((i + 5))).toInt))]) (st := [.int (iI (judgeR m (xs (i + 1)).toInt (xs (i + 2)).toInt (xs (i + 3)).toInt (xs (i + 4)).toInt (xs (i + 5)).toInt))]) dL_law_1271 lk_L_131 (by have h0 := n_judge E (judgeM m (xs (i + 1)).toInt (xs (i + 2)).toInt (xs (i + 3)).toInt (xs (i + 4)).toInt (xs (i + 5)).toInt) (mv (judgeM m (xs (i + 1)).toInt (xs (i + 2)).toInt (xs (i + 3)).toInt (xs (i + 4)).toInt (xs (i + 5)).toInt)) (xs (i + 1)).toInt (xs (i + 2)).toInt (xs (i + 3)).toInt (xs (i + 4)).toInt (xs (i + 5)).toInt (fun k x _ => hs.1 k 0 0 x) hs.2.1 (rg_of _) (rg_of _) (rg_of _) (rg_of _) (rg_of _); rw [wrM_self] at h0; exact h0) ok29 rfl rfl (by decide) rfl rfl (Nat.le_of_ble_eq_true rfl) ?_
  refine T.icmpE 1424 dL_law_1274 hs.2.2.1 ?_
  exact hK _ hs.2.2.2
set_option maxHeartbeats 4000000 in
set_option maxRecDepth 100000 in
theorem L_image (hS0 : Sim_image) (E : Ev) (ad : AD) (hR : ∀ s, E.2.2.2.2 s → RO E.2.2.1 ad s) (sb L : Nat) (xs : Nat → Int32) (hX : ∀ s, E.2.2.2.2 s → SX E sb L xs s) (hL : L ≤ 3584) (N : Nat) (hN : N = 300) (i : Nat) (hi : i + 7 ≤ L) (m : Mem) (hg : Good m) (Q : Option Value → Hp → Prop) (hK : ∀ m', Good m' → T E 20 mL_law 1424 [some (.ref sb), some (rf E 0 0 0), some (rf E 29 0 0), some (.int (iI (i : Int)))] [] (hp E m') Q) : T E 20 mL_law 1279 [some (.ref sb), some (rf E 0 0 0), some (rf E 29 0 0), some (.int (iI (i : Int)))] [] (hp E m) Q := by
  have hs := hS0  m hg
  refine T.aload_n dL_law_1279 rfl ?_
  refine T.cV1 (As := []) (st := []) dL_law_1280 lk_L_132 (c_image E m  hg.1 ) ok0 rfl rfl (by decide) rfl rfl (Nat.le_of_ble_eq_true rfl) ?_
  refine T.aload_n dL_law_1283 rfl ?_
  refine T.cV1 (As := []) (st := [.int (iI 1)]) dL_law_1284 lk_L_135 (by have h0 := n_image E (imageM m) (mv (imageM m)); rw [wrM_self] at h0; exact h0) ok29 rfl rfl (by decide) rfl rfl (Nat.le_of_ble_eq_true rfl) ?_
  refine T.icmpE 1424 dL_law_1287 hs.2.2.1 ?_
  exact hK _ hs.2.2.2
set_option maxHeartbeats 4000000 in
set_option maxRecDepth 100000 in
theorem L_restore (hS0 : Sim_restore) (E : Ev) (ad : AD) (hR : ∀ s, E.2.2.2.2 s → RO E.2.2.1 ad s) (sb L : Nat) (xs : Nat → Int32) (hX : ∀ s, E.2.2.2.2 s → SX E sb L xs s) (hL : L ≤ 3584) (N : Nat) (hN : N = 300) (i : Nat) (hi : i + 7 ≤ L) (m : Mem) (hg : Good m) (Q : Option Value → Hp → Prop) (hK : ∀ m', Good m' → T E 20 mL_law 1424 [some (.ref sb), some (rf E 0 0 0), some (rf E 29 0 0), some (.int (iI (i : Int)))] [] (hp E m') Q) : T E 20 mL_law 1292 [some (.ref sb), some (rf E 0 0 0), some (rf E 29 0 0), some (.int (iI (i : Int)))] [] (hp E m) Q := by
  have hs := hS0  m hg
  refine T.aload_n dL_law_1292 rfl ?_
  refine T.cV1 (As := []) (st := []) dL_law_1293 lk_L_136 (c_restore E m  hg.1 ) ok0 rfl rfl (by decide) rfl rfl (Nat.le_of_ble_eq_true rfl) ?_
  refine T.aload_n dL_law_1296 rfl ?_
  refine T.cV1 (As := []) (st := [.int (iI (restoreR m))]) dL_law_1297 lk_L_139 (by have h0 := n_restore E (restoreM m) (mv (restoreM m))  (fun k x _ => hs.1 k 0 0 x) ; rw [wrM_self] at h0; exact h0) ok29 rfl rfl (by decide) rfl rfl (Nat.le_of_ble_eq_true rfl) ?_
  refine T.icmpE 1424 dL_law_1300 hs.2.2.1 ?_
  exact hK _ hs.2.2.2
set_option maxHeartbeats 4000000 in
set_option maxRecDepth 100000 in
theorem L_sheet (hS0 : Sim_sheet) (E : Ev) (ad : AD) (hR : ∀ s, E.2.2.2.2 s → RO E.2.2.1 ad s) (sb L : Nat) (xs : Nat → Int32) (hX : ∀ s, E.2.2.2.2 s → SX E sb L xs s) (hL : L ≤ 3584) (N : Nat) (hN : N = 300) (i : Nat) (hi : i + 7 ≤ L) (m : Mem) (hg : Good m) (Q : Option Value → Hp → Prop) (hK : ∀ m', Good m' → T E 20 mL_law 1424 [some (.ref sb), some (rf E 0 0 0), some (rf E 29 0 0), some (.int (iI (i : Int)))] [] (hp E m') Q) : T E 20 mL_law 1305 [some (.ref sb), some (rf E 0 0 0), some (rf E 29 0 0), some (.int (iI (i : Int)))] [] (hp E m) Q := by
  have hs := hS0 (xs (i + 1)).toInt (xs (i + 2)).toInt (xs (i + 3)).toInt (rg_of _) (rg_of _) (rg_of _) m hg
  refine T.aload_n dL_law_1305 rfl ?_
  refine T.aload_n dL_law_1306 rfl ?_
  refine T.iload_n dL_law_1307 rfl ?_
  refine T.iconst dL_law_1308 ?_
  refine T.iadd dL_law_1309 ?_
  refine T.sld (j := (i + 1)) dL_law_1310 hX (by omega) (by omega) ?_
  refine T.topi (z := (xs ((i + 1))).toInt) (iI_of _).symm ?_
  refine T.aload_n dL_law_1311 rfl ?_
  refine T.iload_n dL_law_1312 rfl ?_
  refine T.iconst dL_law_1313 ?_
  refine T.iadd dL_law_1314 ?_
  refine T.sld (j := (i + 2)) dL_law_1315 hX (by omega) (by omega) ?_
  refine T.topi (z := (xs ((i + 2))).toInt) (iI_of _).symm ?_
  refine T.aload_n dL_law_1316 rfl ?_
  refine T.iload_n dL_law_1317 rfl ?_
  refine T.iconst dL_law_1318 ?_
  refine T.iadd dL_law_1319 ?_
  refine T.sld (j := (i + 3)) dL_law_1320 hX (by omega) (by omega) ?_
  refine T.topi (z := (xs ((i + 3))).toInt) (iI_of _).symm ?_
  refine T.cV1 (As := [.int (iI ((xs ((i + 1))).toInt)), .int (iI ((xs ((i + 2))).toInt)), .int (iI ((xs ((i + 3))).toInt))]) (st := []) dL_law_1321 lk_L_140 (c_sheet E m (xs (i + 1)).toInt (xs (i + 2)).toInt (xs (i + 3)).toInt hg.1 (rg_of _) (rg_of _) (rg_of _)) ok0 rfl rfl (by decide) rfl rfl (Nat.le_of_ble_eq_true rfl) ?_
  refine T.aload_n dL_law_1324 rfl ?_
  refine T.aload_n dL_law_1325 rfl ?_
  refine T.iload_n dL_law_1326 rfl ?_
  refine T.iconst dL_law_1327 ?_
  refine T.iadd dL_law_1328 ?_
  refine T.sld (j := (i + 1)) dL_law_1329 hX (by omega) (by omega) ?_
  refine T.topi (z := (xs ((i + 1))).toInt) (iI_of _).symm ?_
  refine T.aload_n dL_law_1330 rfl ?_
  refine T.iload_n dL_law_1331 rfl ?_
  refine T.iconst dL_law_1332 ?_
  refine T.iadd dL_law_1333 ?_
  refine T.sld (j := (i + 2)) dL_law_1334 hX (by omega) (by omega) ?_
  refine T.topi (z := (xs ((i + 2))).toInt) (iI_of _).symm ?_
  refine T.aload_n dL_law_1335 rfl ?_
  refine T.iload_n dL_law_1336 rfl ?_
  refine T.iconst dL_law_1337 ?_
  refine T.iadd dL_law_1338 ?_
  refine T.sld (j := (i + 3)) dL_law_1339 hX (by omega) (by omega) ?_
  refine T.topi (z := (xs ((i + 3))).toInt) (iI_of _).symm ?_
  refine T.cV1 (As := [.int (iI ((xs ((i + 1))).toInt)), .int (iI ((xs ((i + 2))).toInt)), .int (iI ((xs ((i + 3))).toInt))]) (st := [.int (iI (sheetR m (xs (i + 1)).toInt (xs (i + 2)).toInt (xs (i + 3)).toInt))]) dL_law_1340 lk_L_143 (by have h0 := n_sheet E (sheetM m (xs (i + 1)).toInt (xs (i + 2)).toInt (xs (i + 3)).toInt) (mv (sheetM m (xs (i + 1)).toInt (xs (i + 2)).toInt (xs (i + 3)).toInt)) (xs (i + 1)).toInt (xs (i + 2)).toInt (xs (i + 3)).toInt (fun k x _ => hs.1 k 0 0 x) (rg_of _) (rg_of _) (rg_of _); rw [wrM_self] at h0; exact h0) ok29 rfl rfl (by decide) rfl rfl (Nat.le_of_ble_eq_true rfl) ?_
  refine T.icmpE 1424 dL_law_1343 hs.2.2.1 ?_
  exact hK _ hs.2.2.2
set_option maxHeartbeats 4000000 in
set_option maxRecDepth 100000 in
theorem L_drop (hS0 : Sim_drop) (E : Ev) (ad : AD) (hR : ∀ s, E.2.2.2.2 s → RO E.2.2.1 ad s) (sb L : Nat) (xs : Nat → Int32) (hX : ∀ s, E.2.2.2.2 s → SX E sb L xs s) (hL : L ≤ 3584) (N : Nat) (hN : N = 300) (i : Nat) (hi : i + 7 ≤ L) (m : Mem) (hg : Good m) (Q : Option Value → Hp → Prop) (hK : ∀ m', Good m' → T E 20 mL_law 1424 [some (.ref sb), some (rf E 0 0 0), some (rf E 29 0 0), some (.int (iI (i : Int)))] [] (hp E m') Q) : T E 20 mL_law 1348 [some (.ref sb), some (rf E 0 0 0), some (rf E 29 0 0), some (.int (iI (i : Int)))] [] (hp E m) Q := by
  have hs := hS0 (xs (i + 1)).toInt (rg_of _) m hg
  refine T.aload_n dL_law_1348 rfl ?_
  refine T.aload_n dL_law_1349 rfl ?_
  refine T.iload_n dL_law_1350 rfl ?_
  refine T.iconst dL_law_1351 ?_
  refine T.iadd dL_law_1352 ?_
  refine T.sld (j := (i + 1)) dL_law_1353 hX (by omega) (by omega) ?_
  refine T.topi (z := (xs ((i + 1))).toInt) (iI_of _).symm ?_
  refine T.cV1 (As := [.int (iI ((xs ((i + 1))).toInt))]) (st := []) dL_law_1354 lk_L_144 (c_drop E m (xs (i + 1)).toInt hg.1 (rg_of _)) ok0 rfl rfl (by decide) rfl rfl (Nat.le_of_ble_eq_true rfl) ?_
  refine T.aload_n dL_law_1357 rfl ?_
  refine T.aload_n dL_law_1358 rfl ?_
  refine T.iload_n dL_law_1359 rfl ?_
  refine T.iconst dL_law_1360 ?_
  refine T.iadd dL_law_1361 ?_
  refine T.sld (j := (i + 1)) dL_law_1362 hX (by omega) (by omega) ?_
  refine T.topi (z := (xs ((i + 1))).toInt) (iI_of _).symm ?_
  refine T.cV1 (As := [.int (iI ((xs ((i + 1))).toInt))]) (st := [.int (iI (dropR m (xs (i + 1)).toInt))]) dL_law_1363 lk_L_147 (by have h0 := n_drop E (dropM m (xs (i + 1)).toInt) (mv (dropM m (xs (i + 1)).toInt)) (xs (i + 1)).toInt (fun k x _ => hs.1 k 0 0 x) (rg_of _); rw [wrM_self] at h0; exact h0) ok29 rfl rfl (by decide) rfl rfl (Nat.le_of_ble_eq_true rfl) ?_
  refine T.icmpE 1424 dL_law_1366 hs.2.2.1 ?_
  exact hK _ hs.2.2.2
set_option maxHeartbeats 4000000 in
set_option maxRecDepth 100000 in
theorem L_item (hS0 : Sim_item) (E : Ev) (ad : AD) (hR : ∀ s, E.2.2.2.2 s → RO E.2.2.1 ad s) (sb L : Nat) (xs : Nat → Int32) (hX : ∀ s, E.2.2.2.2 s → SX E sb L xs s) (hL : L ≤ 3584) (N : Nat) (hN : N = 300) (i : Nat) (hi : i + 7 ≤ L) (m : Mem) (hg : Good m) (Q : Option Value → Hp → Prop) (hK : ∀ m', Good m' → T E 20 mL_law 1424 [some (.ref sb), some (rf E 0 0 0), some (rf E 29 0 0), some (.int (iI (i : Int)))] [] (hp E m') Q) : T E 20 mL_law 1371 [some (.ref sb), some (rf E 0 0 0), some (rf E 29 0 0), some (.int (iI (i : Int)))] [] (hp E m) Q := by
  have hs := hS0 (xs (i + 1)).toInt (xs (i + 2)).toInt (xs (i + 3)).toInt (xs (i + 4)).toInt (rg_of _) (rg_of _) (rg_of _) (rg_of _) m hg
  refine T.aload_n dL_law_1371 rfl ?_
  refine T.aload_n dL_law_1372 rfl ?_
  refine T.iload_n dL_law_1373 rfl ?_
  refine T.iconst dL_law_1374 ?_
  refine T.iadd dL_law_1375 ?_
  refine T.sld (j := (i + 1)) dL_law_1376 hX (by omega) (by omega) ?_
  refine T.topi (z := (xs ((i + 1))).toInt) (iI_of _).symm ?_
  refine T.aload_n dL_law_1377 rfl ?_
  refine T.iload_n dL_law_1378 rfl ?_
  refine T.iconst dL_law_1379 ?_
  refine T.iadd dL_law_1380 ?_
  refine T.sld (j := (i + 2)) dL_law_1381 hX (by omega) (by omega) ?_
  refine T.topi (z := (xs ((i + 2))).toInt) (iI_of _).symm ?_
  refine T.aload_n dL_law_1382 rfl ?_
  refine T.iload_n dL_law_1383 rfl ?_
  refine T.iconst dL_law_1384 ?_
  refine T.iadd dL_law_1385 ?_
  refine T.sld (j := (i + 3)) dL_law_1386 hX (by omega) (by omega) ?_
  refine T.topi (z := (xs ((i + 3))).toInt) (iI_of _).symm ?_
  refine T.aload_n dL_law_1387 rfl ?_
  refine T.iload_n dL_law_1388 rfl ?_
  refine T.iconst dL_law_1389 ?_
  refine T.iadd dL_law_1390 ?_
  refine T.sld (j := (i + 4)) dL_law_1391 hX (by omega) (by omega) ?_
  refine T.topi (z := (xs ((i + 4))).toInt) (iI_of _).symm ?_
  refine T.cV1 (As := [.int (iI ((xs ((i + 1))).toInt)), .int (iI ((xs ((i + 2))).toInt)), .int (iI ((xs ((i + 3))).toInt)), .int (iI ((xs ((i + 4))).toInt))]) (st := []) dL_law_1392 lk_L_148 (c_item E m (xs (i + 1)).toInt (xs (i + 2)).toInt (xs (i + 3)).toInt (xs (i + 4)).toInt hg.1 (rg_of _) (rg_of _) (rg_of _)) ok0 rfl rfl (by decide) rfl rfl (Nat.le_of_ble_eq_true rfl) ?_
  refine T.aload_n dL_law_1395 rfl ?_
  refine T.aload_n dL_law_1396 rfl ?_
  refine T.iload_n dL_law_1397 rfl ?_
  refine T.iconst dL_law_1398 ?_
  refine T.iadd dL_law_1399 ?_
  refine T.sld (j := (i + 1)) dL_law_1400 hX (by omega) (by omega) ?_
  refine T.topi (z := (xs ((i + 1))).toInt) (iI_of _).symm ?_
  refine T.aload_n dL_law_1401 rfl ?_
  refine T.iload_n dL_law_1402 rfl ?_
  refine T.iconst dL_law_1403 ?_
  refine T.iadd dL_law_1404 ?_
  refine T.sld (j := (i + 2)) dL_law_1405 hX (by omega) (by omega) ?_
  refine T.topi (z := (xs ((i + 2))).toInt) (iI_of _).symm ?_
  refine T.aload_n dL_law_1406 rfl ?_
  refine T.iload_n dL_law_1407 rfl ?_
  refine T.iconst dL_law_1408 ?_
  refine T.iadd dL_law_1409 ?_
  refine T.sld (j := (i + 3)) dL_law_1410 hX (by omega) (by omega) ?_
  refine T.topi (z := (xs ((i + 3))).toInt) (iI_of _).symm ?_
  refine T.aload_n dL_law_1411 rfl ?_
  refine T.iload_n dL_law_1412 rfl ?_
  refine T.iconst dL_law_1413 ?_
  refine T.iadd dL_law_1414 ?_
  refine T.sld (j := (i + 4)) dL_law_1415 hX (by omega) (by omega) ?_
  refine T.topi (z := (xs ((i + 4))).toInt) (iI_of _).symm ?_
  refine T.cV1 (As := [.int (iI ((xs ((i + 1))).toInt)), .int (iI ((xs ((i + 2))).toInt)), .int (iI ((xs ((i + 3))).toInt)), .int (iI ((xs ((i + 4))).toInt))]) (st := [.int (iI (itemR m (xs (i + 1)).toInt (xs (i + 2)).toInt (xs (i + 3)).toInt (xs (i + 4)).toInt))]) dL_law_1416 lk_L_151 (by have h0 := n_item E (itemM m (xs (i + 1)).toInt (xs (i + 2)).toInt (xs (i + 3)).toInt (xs (i + 4)).toInt) (mv (itemM m (xs (i + 1)).toInt (xs (i + 2)).toInt (xs (i + 3)).toInt (xs (i + 4)).toInt)) (xs (i + 1)).toInt (xs (i + 2)).toInt (xs (i + 3)).toInt (xs (i + 4)).toInt (fun k x _ => hs.1 k 0 0 x) (rg_of _) (rg_of _) (rg_of _); rw [wrM_self] at h0; exact h0) ok29 rfl rfl (by decide) rfl rfl (Nat.le_of_ble_eq_true rfl) ?_
  refine T.icmpE 1424 dL_law_1419 hs.2.2.1 ?_
  exact hK _ hs.2.2.2
set_option maxHeartbeats 4000000 in
set_option maxRecDepth 100000 in
theorem L_loop (E : Ev) (ad : AD) (hR : ∀ s, E.2.2.2.2 s → RO E.2.2.1 ad s) (sb L : Nat) (xs : Nat → Int32) (hX : ∀ s, E.2.2.2.2 s → SX E sb L xs s) (hL : L ≤ 3584) (N : Nat) (hN : N = 300) (hSs : Sims) : ∀ (k i : Nat) (m : Mem), L - i = k → i ≤ L + 7 → Good m → T E 20 mL_law 18 [some (.ref sb), some (rf E 0 0 0), some (rf E 29 0 0), some (.int (iI (i : Int)))] [] (hp E m) (fun r h' => r = some (.int (iI 1)) ∧ h'.1 = 400 ∧ h'.2.1 = 5110) := by
  intro k
  induction k using Nat.strongRecOn with
  | ind k ih =>
    intro i m hk hi hg
    refine T.iload_n dL_law_18 rfl ?_
    refine T.aload_n dL_law_19 rfl ?_
    refine T.slen dL_law_20 hX ?_
    refine T.bipush dL_law_21 ?_
    refine T.isub dL_law_23 ?_
    refine T.icmp_gt 1430 dL_law_24 (by unfold rg; omega) (by unfold rg; omega) (fun c1 => ?_) (fun c1 => ?_)
    · refine T.iconst dL_law_1430 ?_
      exact T.zret dL_law_1431 (narZ (Or.inr rfl)) ⟨rfl, rfl, rfl⟩
    · refine T.aload_n dL_law_27 rfl ?_
      refine T.iload_n dL_law_28 rfl ?_
      refine T.sld (j := i) dL_law_29 hX rfl (by omega) ?_
      refine T.bipush dL_law_30 ?_
      refine T.iand dL_law_32 ?_
      refine T.topi (z := (xs i &&& iI 31).toInt) (iI_of _).symm ?_
      have h31 := and31 (xs i)
      have hK : ∀ m', Good m' → T E 20 mL_law 1424 [some (.ref sb), some (rf E 0 0 0), some (rf E 29 0 0), some (.int (iI (i : Int)))] [] (hp E m') (fun r h' => r = some (.int (iI 1)) ∧ h'.1 = 400 ∧ h'.2.1 = 5110) := by
        intro m' hg'
        refine T.iinc (ls' := [some (.ref sb), some (rf E 0 0 0), some (rf E 29 0 0), some (.int (iI ((i : Int) + 7)))]) dL_law_1424 rfl rfl ?_
        refine T.goto 18 dL_law_1427 ?_
        exact ih (L - (i + 7)) (by omega) (i + 7) m' rfl (by omega) hg'
      generalize hkk : (xs i &&& iI 31).toInt = kk at h31 ⊢
      by_cases e0 : kk = 0
      · refine T.tableIn 172 dL_law_33 (by unfold rg; omega) (by omega) (by omega) (by subst e0; rfl) ?_
        exact L_debt hSs.1 E ad hR sb L xs hX hL N hN i (by omega) m hg _ hK
      by_cases e1 : kk = 1
      · refine T.tableIn 225 dL_law_33 (by unfold rg; omega) (by omega) (by omega) (by subst e1; rfl) ?_
        exact L_set hSs.2.1 E ad hR sb L xs hX hL N hN i (by omega) m hg _ hK
      by_cases e2 : kk = 2
      · refine T.tableIn 268 dL_law_33 (by unfold rg; omega) (by omega) (by omega) (by subst e2; rfl) ?_
        exact L_pay hSs.2.2.1 E ad hR sb L xs hX hL N hN i (by omega) m hg _ hK
      by_cases e3 : kk = 3
      · refine T.tableIn 301 dL_law_33 (by unfold rg; omega) (by omega) (by omega) (by subst e3; rfl) ?_
        exact L_pays hSs.2.2.2.1 E ad hR sb L xs hX hL N hN i (by omega) m hg _ hK
      by_cases e4 : kk = 4
      · refine T.tableIn 354 dL_law_33 (by unfold rg; omega) (by omega) (by omega) (by subst e4; rfl) ?_
        exact L_word hSs.2.2.2.2.1 E ad hR sb L xs hX hL N hN i (by omega) m hg _ hK
      by_cases e5 : kk = 5
      · refine T.tableIn 397 dL_law_33 (by unfold rg; omega) (by omega) (by omega) (by subst e5; rfl) ?_
        exact L_move hSs.2.2.2.2.2.1 E ad hR sb L xs hX hL N hN i (by omega) m hg _ hK
      by_cases e6 : kk = 6
      · refine T.tableIn 430 dL_law_33 (by unfold rg; omega) (by omega) (by omega) (by subst e6; rfl) ?_
        exact L_count hSs.2.2.2.2.2.2.1 E ad hR sb L xs hX hL N hN i (by omega) m hg _ hK
      by_cases e7 : kk = 7
      · refine T.tableIn 453 dL_law_33 (by unfold rg; omega) (by omega) (by omega) (by subst e7; rfl) ?_
        exact L_type hSs.2.2.2.2.2.2.2.1 E ad hR sb L xs hX hL N hN i (by omega) m hg _ hK
      by_cases e8 : kk = 8
      · refine T.tableIn 516 dL_law_33 (by unfold rg; omega) (by omega) (by omega) (by subst e8; rfl) ?_
        exact L_law hSs.2.2.2.2.2.2.2.2.1 E ad hR sb L xs hX hL N hN i (by omega) m hg _ hK
      by_cases e9 : kk = 9
      · refine T.tableIn 539 dL_law_33 (by unfold rg; omega) (by omega) (by omega) (by subst e9; rfl) ?_
        exact L_letter hSs.2.2.2.2.2.2.2.2.2.1 E ad hR sb L xs hX hL N hN i (by omega) m hg _ hK
      by_cases e10 : kk = 10
      · refine T.tableIn 572 dL_law_33 (by unfold rg; omega) (by omega) (by omega) (by subst e10; rfl) ?_
        exact L_left hSs.2.2.2.2.2.2.2.2.2.2.1 E ad hR sb L xs hX hL N hN i (by omega) m hg _ hK
      by_cases e11 : kk = 11
      · refine T.tableIn 626 dL_law_33 (by unfold rg; omega) (by omega) (by omega) (by subst e11; rfl) ?_
        exact L_owed hSs.2.2.2.2.2.2.2.2.2.2.2.1 E ad hR sb L xs hX hL N hN i (by omega) m hg _ hK
      by_cases e12 : kk = 12
      · refine T.tableIn 660 dL_law_33 (by unfold rg; omega) (by omega) (by omega) (by subst e12; rfl) ?_
        exact L_put hSs.2.2.2.2.2.2.2.2.2.2.2.2.1 E ad hR sb L xs hX hL N hN i (by omega) m hg _ hK
      by_cases e13 : kk = 13
      · refine T.tableIn 714 dL_law_33 (by unfold rg; omega) (by omega) (by omega) (by subst e13; rfl) ?_
        exact L_paid hSs.2.2.2.2.2.2.2.2.2.2.2.2.2.1 E ad hR sb L xs hX hL N hN i (by omega) m hg _ hK
      by_cases e14 : kk = 14
      · refine T.tableIn 747 dL_law_33 (by unfold rg; omega) (by omega) (by omega) (by subst e14; rfl) ?_
        exact L_dead hSs.2.2.2.2.2.2.2.2.2.2.2.2.2.2.1 E ad hR sb L xs hX hL N hN i (by omega) m hg _ hK
      by_cases e15 : kk = 15
      · refine T.tableIn 790 dL_law_33 (by unfold rg; omega) (by omega) (by omega) (by subst e15; rfl) ?_
        exact L_wakes hSs.2.2.2.2.2.2.2.2.2.2.2.2.2.2.2.1 E ad hR sb L xs hX hL N hN i (by omega) m hg _ hK
      by_cases e16 : kk = 16
      · refine T.tableIn 823 dL_law_33 (by unfold rg; omega) (by omega) (by omega) (by subst e16; rfl) ?_
        exact L_free hSs.2.2.2.2.2.2.2.2.2.2.2.2.2.2.2.2.1 E ad hR sb L xs hX hL N hN i (by omega) m hg _ hK
      by_cases e17 : kk = 17
      · refine T.tableIn 856 dL_law_33 (by unfold rg; omega) (by omega) (by omega) (by subst e17; rfl) ?_
        exact L_rank hSs.2.2.2.2.2.2.2.2.2.2.2.2.2.2.2.2.2.1 E ad hR sb L xs hX hL N hN i (by omega) m hg _ hK
      by_cases e18 : kk = 18
      · refine T.tableIn 899 dL_law_33 (by unfold rg; omega) (by omega) (by omega) (by subst e18; rfl) ?_
        exact L_best hSs.2.2.2.2.2.2.2.2.2.2.2.2.2.2.2.2.2.2.1 E ad hR sb L xs hX hL N hN i (by omega) m hg _ hK
      by_cases e19 : kk = 19
      · refine T.tableIn 952 dL_law_33 (by unfold rg; omega) (by omega) (by omega) (by subst e19; rfl) ?_
        exact L_least hSs.2.2.2.2.2.2.2.2.2.2.2.2.2.2.2.2.2.2.2.1 E ad hR sb L xs hX hL N hN i (by omega) m hg _ hK
      by_cases e20 : kk = 20
      · refine T.tableIn 996 dL_law_33 (by unfold rg; omega) (by omega) (by omega) (by subst e20; rfl) ?_
        exact L_answer hSs.2.2.2.2.2.2.2.2.2.2.2.2.2.2.2.2.2.2.2.2.1 E ad hR sb L xs hX hL N hN i (by omega) m hg _ hK
      by_cases e21 : kk = 21
      · refine T.tableIn 1039 dL_law_33 (by unfold rg; omega) (by omega) (by omega) (by subst e21; rfl) ?_
        exact L_hangs hSs.2.2.2.2.2.2.2.2.2.2.2.2.2.2.2.2.2.2.2.2.2.1 E ad hR sb L xs hX hL N hN i (by omega) m hg _ hK
      by_cases e22 : kk = 22
      · refine T.tableIn 1115 dL_law_33 (by unfold rg; omega) (by omega) (by omega) (by subst e22; rfl) ?_
        exact L_plan hSs.2.2.2.2.2.2.2.2.2.2.2.2.2.2.2.2.2.2.2.2.2.2.1 E ad hR sb L xs hX hL N hN i (by omega) m hg _ hK
      by_cases e23 : kk = 23
      · refine T.tableIn 1179 dL_law_33 (by unfold rg; omega) (by omega) (by omega) (by subst e23; rfl) ?_
        exact L_parts hSs.2.2.2.2.2.2.2.2.2.2.2.2.2.2.2.2.2.2.2.2.2.2.2.1 E ad hR sb L xs hX hL N hN i (by omega) m hg _ hK
      by_cases e24 : kk = 24
      · refine T.tableIn 1192 dL_law_33 (by unfold rg; omega) (by omega) (by omega) (by subst e24; rfl) ?_
        exact L_gap hSs.2.2.2.2.2.2.2.2.2.2.2.2.2.2.2.2.2.2.2.2.2.2.2.2.1 E ad hR sb L xs hX hL N hN i (by omega) m hg _ hK
      by_cases e25 : kk = 25
      · refine T.tableIn 1216 dL_law_33 (by unfold rg; omega) (by omega) (by omega) (by subst e25; rfl) ?_
        exact L_judge hSs.2.2.2.2.2.2.2.2.2.2.2.2.2.2.2.2.2.2.2.2.2.2.2.2.2.1 E ad hR sb L xs hX hL N hN i (by omega) m hg _ hK
      by_cases e26 : kk = 26
      · refine T.tableIn 1279 dL_law_33 (by unfold rg; omega) (by omega) (by omega) (by subst e26; rfl) ?_
        exact L_image hSs.2.2.2.2.2.2.2.2.2.2.2.2.2.2.2.2.2.2.2.2.2.2.2.2.2.2.1 E ad hR sb L xs hX hL N hN i (by omega) m hg _ hK
      by_cases e27 : kk = 27
      · refine T.tableIn 1292 dL_law_33 (by unfold rg; omega) (by omega) (by omega) (by subst e27; rfl) ?_
        exact L_restore hSs.2.2.2.2.2.2.2.2.2.2.2.2.2.2.2.2.2.2.2.2.2.2.2.2.2.2.2.1 E ad hR sb L xs hX hL N hN i (by omega) m hg _ hK
      by_cases e28 : kk = 28
      · refine T.tableIn 1305 dL_law_33 (by unfold rg; omega) (by omega) (by omega) (by subst e28; rfl) ?_
        exact L_sheet hSs.2.2.2.2.2.2.2.2.2.2.2.2.2.2.2.2.2.2.2.2.2.2.2.2.2.2.2.2.1 E ad hR sb L xs hX hL N hN i (by omega) m hg _ hK
      by_cases e29 : kk = 29
      · refine T.tableIn 1348 dL_law_33 (by unfold rg; omega) (by omega) (by omega) (by subst e29; rfl) ?_
        exact L_drop hSs.2.2.2.2.2.2.2.2.2.2.2.2.2.2.2.2.2.2.2.2.2.2.2.2.2.2.2.2.2.1 E ad hR sb L xs hX hL N hN i (by omega) m hg _ hK
      by_cases e30 : kk = 30
      · refine T.tableIn 1371 dL_law_33 (by unfold rg; omega) (by omega) (by omega) (by subst e30; rfl) ?_
        exact L_item hSs.2.2.2.2.2.2.2.2.2.2.2.2.2.2.2.2.2.2.2.2.2.2.2.2.2.2.2.2.2.2 E ad hR sb L xs hX hL N hN i (by omega) m hg _ hK
      refine T.tableOut 1424 dL_law_33 (by unfold rg; omega) (by omega) ?_
      exact hK m hg
