noncomputable def paL (S : PS) (y : Int) : Nat → PS
  | 0 => S
  | d + 1 => upT (upT (upT (paL S y d) 43 d 0) 44 d 0) 46 d (bZ (dyM S d y))
theorem paL_k {S : PS} {y : Int} {k : Nat} (h : k ≠ 43 ∧ k ≠ 44 ∧ k ≠ 46) : ∀ n, paL S y n k = S k
  | 0 => rfl
  | n + 1 => by
    funext x
    show upT (upT (upT (paL S y n) 43 n 0) 44 n 0) 46 n _ k x = _
    rw [upT_k h.2.2, upT_k h.2.1, upT_k h.1, paL_k h n]
theorem paL_ok {S : PS} {y : Int} (hS : InvS kM S) : ∀ n, InvS kM (paL S y n) ∧ Dn S (paL S y n)
  | 0 => ⟨hS, Dn.rf hS⟩
  | n + 1 => ⟨(((paL_ok hS n).1.up (by show True; trivial)).up (by show True; trivial)).up (by show 0 ≤ _ ∧ _ ≤ (1 : Int); rcases bZ_01 (dyM S n y) with h | h <;> omega), (((paL_ok hS n).2.up (by decide)).up (by decide)).up (by decide)⟩
def chM (S : PS) (l : Nat) (w an : Int) : Int := if hasM S l 99 ∧ 0 ≤ w ∧ 0 < S 39 w.toNat + S 40 w.toNat then w else if hasM S l 116 ∧ 0 ≤ an ∧ 0 < S 39 an.toNat + S 40 an.toNat then an else -4
def paT (S : PS) (l d : Nat) (y : Int) : PS := upT (ntS S l d (S 29 15) y) 29 15 (S 29 15 - ntR S l d (S 29 15))
def pa3 (S : PS) (l : Nat) (y t : Int) : PS := if 0 ≤ t then paT S l t.toNat y else S
def gpL (S : PS) (l : Nat) (y : Int) : Nat → PS
  | 0 => S
  | k + 1 => upT (gpL S l y k) 49 k (if 0 < k ∧ cmM S l y (S 47 (k - 1)).toNat (S 47 k).toNat = 0 then gpL S l y k 49 (k - 1) else k)
def geL (g : Nat → Int) (n k : Nat) : Nat → Nat → Nat
  | 0, e => e
  | f + 1, e => if e < n ∧ g e = k then geL g n k f (e + 1) else e
def pm1 (l : Nat) (y : Int) (n k : Nat) (D : PS) : PS := if hasM D l 112 then (if D 49 k = k then ppS D l k (geL (D 49) n k (n - (k + 1)) (k + 1)) y else D) else paT D l (D 47 k).toNat y
def pmL (l : Nat) (y : Int) (n : Nat) : Nat → Nat → PS → PS
  | 0, _, D => D
  | f + 1, k, D => pmL l y n f (k + 1) (pm1 l y n k D)
def pa5 (S : PS) (l : Nat) (y : Int) (n : Nat) : PS := pmL l y n n 0 (gpL S l y n)
def pa4 (S : PS) (l : Nat) (y : Int) : PS := pa5 (setT S 47 (orM S l y).2) l y (orM S l y).1
noncomputable def pa2 (S : PS) (a y : Int) : PS := upT (paL S y (S 29 0).toNat) 29 15 a
noncomputable def paS (S : PS) (l : Nat) (a w an y : Int) : PS := pa4 (pa3 (pa2 S a y) l y (chM (pa2 S a y) l w an)) l y
theorem paT_ok {S : PS} {l d : Nat} {y : Int} (hS : InvS kM S) (hy : 0 ≤ y ∧ y ≤ 299) (ho : 0 ≤ S 29 15 ∧ S 29 15 ≤ 99990000) : InvS kM (paT S l d y) ∧ Dn S (paT S l d y) ∧ 0 ≤ paT S l d y 29 15 ∧ paT S l d y 29 15 ≤ 99990000 := by
  have q1 : 0 ≤ S 39 d ∧ S 39 d ≤ 99990000 := hS 39 d rfl
  have q2 : 0 ≤ S 40 d ∧ S 40 d ≤ 4000000000 := hS 40 d rfl
  have h1 := nts_bd (l := l) (d := d) (a := S 29 15) hS ho.1
  refine ⟨(ntS_inv hS ho.1 hy).up (by show True; trivial), (ntS_dn hS ho.1).over, ?_⟩
  unfold paT
  rw [upT_self]
  omega
theorem gpL_k {S : PS} {l : Nat} {y : Int} {k : Nat} (h : k ≠ 49) : ∀ n, gpL S l y n k = S k
  | 0 => rfl
  | n + 1 => by
    funext x
    show upT (gpL S l y n) 49 n _ k x = _
    rw [upT_k h, gpL_k h n]
theorem gpL_ok {S : PS} {l : Nat} {y : Int} (hS : InvS kM S) : ∀ n, n ≤ 8 → InvS kM (gpL S l y n) ∧ Dn S (gpL S l y n)
  | 0, _ => ⟨hS, Dn.rf hS⟩
  | n + 1, h => by
    have i1 := gpL_ok (l := l) (y := y) hS n (by omega)
    have q : 0 ≤ gpL S l y n 49 (n - 1) ∧ gpL S l y n 49 (n - 1) ≤ 7 := i1.1 49 (n - 1) rfl
    refine ⟨i1.1.up ?_, i1.2.up (by decide)⟩
    show 0 ≤ _ ∧ _ ≤ (7 : Int)
    split <;> omega
theorem geL_le {g : Nat → Int} {n k : Nat} : ∀ f e, e + f ≤ n → e ≤ geL g n k f e ∧ geL g n k f e ≤ n
  | 0, e, h => by unfold geL; omega
  | f + 1, e, h => by
    unfold geL
    split
    · have := geL_le (g := g) (n := n) (k := k) f (e + 1) (by omega)
      omega
    · omega
theorem pm1_ok {l n k : Nat} {y : Int} {D : PS} (hD : InvS kM D) (hy : 0 ≤ y ∧ y ≤ 299) (ho : 0 ≤ D 29 15 ∧ D 29 15 ≤ 99990000) : InvS kM (pm1 l y n k D) ∧ Dn D (pm1 l y n k D) ∧ 0 ≤ pm1 l y n k D 29 15 ∧ pm1 l y n k D 29 15 ≤ 99990000 := by
  unfold pm1
  split
  · split
    · have h1 := ppS_ok (l := l) (fr := k) (en := geL (D 49) n k (n - (k + 1)) (k + 1)) hD hy ho
      exact ⟨h1.1, h1.2, ppS_ov hD ho⟩
    · exact ⟨hD, Dn.rf hD, ho⟩
  · exact paT_ok hD hy ho
theorem pmL_ok {l n : Nat} {y : Int} (hy : 0 ≤ y ∧ y ≤ 299) : ∀ f k D, InvS kM D → (0 ≤ D 29 15 ∧ D 29 15 ≤ 99990000) → InvS kM (pmL l y n f k D) ∧ Dn D (pmL l y n f k D)
  | 0, k, D, hD, ho => ⟨hD, Dn.rf hD⟩
  | f + 1, k, D, hD, ho => by
    have h1 := pm1_ok (l := l) (n := n) (k := k) hD hy ho
    have h2 := pmL_ok (l := l) (n := n) hy f (k + 1) _ h1.1 h1.2.2
    exact ⟨h2.1, h1.2.1.tr h2.2⟩
theorem pa4_ok {S : PS} {l : Nat} {y : Int} (hS : InvS kM S) (hy : 0 ≤ y ∧ y ≤ 299) (ho : 0 ≤ S 29 15 ∧ S 29 15 ≤ 99990000) : InvS kM (pa4 S l y) ∧ Dn S (pa4 S l y) := by
  have q0 : 0 ≤ S 29 0 ∧ S 29 0 ≤ 8 := hS 29 0 rfl
  have h1 : InvS kM (setT S 47 (orM S l y).2) := hS.set (fun x => ordL_rg (fun x => hS 47 x rfl) _ (by omega) x)
  have hn : (orM S l y).1 ≤ 8 := Nat.le_trans (ordL_n _) (by omega)
  have h2 := gpL_ok (l := l) (y := y) h1 (orM S l y).1 hn
  have h3 := pmL_ok (l := l) (n := (orM S l y).1) hy (orM S l y).1 0 _ h2.1 (by rw [gpL_k (by decide), setT_d (by decide)]; exact ho)
  exact ⟨h3.1, (((Dn.rf hS).set (by decide)).tr h2.2).tr h3.2⟩
theorem pa3_ok {S : PS} {l : Nat} {y t : Int} (hS : InvS kM S) (hy : 0 ≤ y ∧ y ≤ 299) (ho : 0 ≤ S 29 15 ∧ S 29 15 ≤ 99990000) : InvS kM (pa3 S l y t) ∧ Dn S (pa3 S l y t) ∧ 0 ≤ pa3 S l y t 29 15 ∧ pa3 S l y t 29 15 ≤ 99990000 := by
  unfold pa3
  split
  · exact paT_ok hS hy ho
  · exact ⟨hS, Dn.rf hS, ho⟩
theorem pa2_ok {S : PS} {a y : Int} (hS : InvS kM S) : InvS kM (pa2 S a y) ∧ Dn S (pa2 S a y) := by
  have h1 := paL_ok (y := y) hS (S 29 0).toNat
  exact ⟨h1.1.up (by show True; trivial), h1.2.over⟩
theorem paS_ok {S : PS} {l : Nat} {a w an y : Int} (hS : InvS kM S) (hy : 0 ≤ y ∧ y ≤ 299) (ha : 0 ≤ a ∧ a ≤ 99990000) : InvS kM (paS S l a w an y) ∧ Dn S (paS S l a w an y) := by
  have h1 := pa2_ok (a := a) (y := y) hS
  have h2 := pa3_ok (l := l) (t := chM (pa2 S a y) l w an) h1.1 hy (by unfold pa2; rw [upT_self]; exact ha)
  have h3 := pa4_ok (l := l) h2.1 hy h2.2.2
  exact ⟨h3.1, (h1.2.tr h2.2.1).tr h3.2⟩
theorem chM_rg {S : PS} {l : Nat} {w an : Int} (hw : -1 ≤ w ∧ w ≤ 7) (han : -1 ≤ an ∧ an ≤ 7) : -4 ≤ chM S l w an ∧ chM S l w an ≤ 7 := by
  unfold chM
  split
  · omega
  · split <;> omega
set_option maxHeartbeats 4000000 in
set_option maxRecDepth 100000 in
theorem n_pa_e (E : Ev) (m : Mem) (D : PS) (l n k : Nat) (y : Int) (hD : InvS kM D) (hk8 : k < n) (hn8 : n ≤ 8) (Q : Option Value → Hp → Prop) : ∀ (kk : Nat) (e : Nat), n - e = kk → e ≤ n → T E 4 mX9_putAll 317 [some (rf E 29 0 0), some (.int (iI (l : Int))), none, none, none, none, some (.int (iI y)), none, some (.int (iI (n : Int))), some (.int (iI (k : Int))), some (.int (iI ((geL (D 49) n k (n - e) e : Nat) : Int)))] [] (hp E (wrM m D)) Q → T E 4 mX9_putAll 292 [some (rf E 29 0 0), some (.int (iI (l : Int))), none, none, none, none, some (.int (iI y)), none, some (.int (iI (n : Int))), some (.int (iI (k : Int))), some (.int (iI (e : Int)))] [] (hp E (wrM m D)) Q := by
  intro kk
  induction kk using Nat.strongRecOn with
  | ind kk ih =>
    intro e hk hen hK
    refine T.iload dX9_putAll_292 rfl ?_
    refine T.iload dX9_putAll_294 rfl ?_
    refine T.icmp_ge 317 dX9_putAll_296 (by unfold rg; omega) (by unfold rg; omega) (fun c1 => ?_) (fun c1 => ?_)
    · rw [show geL (D 49) n k (n - e) e = e from by cases hf : n - e with
          | zero => rfl
          | succ f => unfold geL; exact if_neg (by omega)] at hK
      exact hK
    · refine T.aload_n dX9_putAll_299 rfl ?_
      refine T.mget (v := rf E 49 0 0) dX9_putAll_300 fo_X9_57 ok29 rfl rfl ?_
      refine T.iload dX9_putAll_303 rfl ?_
      refine T.aI (z := D 49 e) (x := e) dX9_putAll_305 ok49 (fun _ => rfl) rfl (by omega) (wrM_c rfl) ?_
      have q2 : 0 ≤ D 49 e ∧ D 49 e ≤ 7 := hD 49 e rfl
      refine T.iload dX9_putAll_306 rfl ?_
      refine T.icmp_ne 317 dX9_putAll_308 (by unfold rg; omega) (by unfold rg; omega) (fun c3 => ?_) (fun c3 => ?_)
      · rw [show geL (D 49) n k (n - e) e = e from by cases hf : n - e with
            | zero => rfl
            | succ f => unfold geL; exact if_neg (by omega)] at hK
        exact hK
      · refine T.iinc (ls' := [some (rf E 29 0 0), some (.int (iI (l : Int))), none, none, none, none, some (.int (iI y)), none, some (.int (iI (n : Int))), some (.int (iI (k : Int))), some (.int (iI ((e : Int) + 1)))]) dX9_putAll_311 rfl rfl ?_
        refine T.goto 292 dX9_putAll_314 ?_
        rw [show geL (D 49) n k (n - e) e = geL (D 49) n k (n - (e + 1)) (e + 1) from by rw [show n - e = (n - (e + 1)) + 1 from by omega]; conv => lhs; unfold geL; rw [if_pos ⟨by omega, by omega⟩]] at hK
        exact ih (n - (e + 1)) (by omega) (e + 1) rfl (by omega) hK
set_option maxHeartbeats 4000000 in
set_option maxRecDepth 100000 in
theorem n_pa_m (E : Ev) (m : Mem) (l n : Nat) (y : Int) (hl : l < 2) (hy : 0 ≤ y ∧ y ≤ 299) (hn8 : n ≤ 8) : ∀ (kk : Nat) (k : Nat) (D : PS), n - k = kk → k ≤ n → InvS kM D → (0 ≤ D 29 15 ∧ D 29 15 ≤ 99990000) → T E 4 mX9_putAll 227 [some (rf E 29 0 0), some (.int (iI (l : Int))), none, none, none, none, some (.int (iI y)), none, some (.int (iI (n : Int))), some (.int (iI (k : Int))), none] [] (hp E (wrM m D)) (fun r' h' => r' = none ∧ h' = hp E (wrM m (pmL l y n (n - k) k D))) := by
  intro kk
  induction kk using Nat.strongRecOn with
  | ind kk ih =>
    intro k D hk hkn hD ho
    have hp1 := pm1_ok (l := l) (n := n) (k := k) hD hy ho
    refine T.iload dX9_putAll_227 rfl ?_
    refine T.iload dX9_putAll_229 rfl ?_
    refine T.icmp_ge 334 dX9_putAll_231 (by unfold rg; omega) (by unfold rg; omega) (fun c1 => ?_) (fun c1 => ?_)
    · obtain rfl : k = n := by omega
      exact T.vret dX9_putAll_334 ⟨rfl, by rw [Nat.sub_self]; rfl⟩
    · refine T.aload_n dX9_putAll_234 rfl ?_
      refine T.iload_n dX9_putAll_235 rfl ?_
      refine T.bipush dX9_putAll_236 ?_
      refine T.cV1 (As := [.int (iI (l : Int)), .int (iI 112)]) (st := []) dX9_putAll_238 lk_X9_141 (n_has E m D l 112 hD hl (by decide)) ok29 rfl rfl (by decide) rfl rfl (Nat.le_of_ble_eq_true rfl) ?_
      refine T.ifB_ne 274 dX9_putAll_241 (fun c2 => ?_) (fun c2 => ?_)
      · refine T.aload_n dX9_putAll_274 rfl ?_
        refine T.mget (v := rf E 49 0 0) dX9_putAll_275 fo_X9_57 ok29 rfl rfl ?_
        refine T.iload dX9_putAll_278 rfl ?_
        refine T.aI (z := D 49 k) (x := k) dX9_putAll_280 ok49 (fun _ => rfl) rfl (by omega) (wrM_c rfl) ?_
        have q3 : 0 ≤ D 49 k ∧ D 49 k ≤ 7 := hD 49 k rfl
        refine T.iload dX9_putAll_281 rfl ?_
        refine T.icmp_ne 328 dX9_putAll_283 (by unfold rg; omega) (by unfold rg; omega) (fun c4 => ?_) (fun c4 => ?_)
        · refine T.iinc (ls' := [some (rf E 29 0 0), some (.int (iI (l : Int))), none, none, none, none, some (.int (iI y)), none, some (.int (iI (n : Int))), some (.int (iI ((k : Int) + 1))), none]) dX9_putAll_328 rfl rfl ?_
          refine T.goto 227 dX9_putAll_331 ?_
          have hq : pm1 l y n k D = D := by unfold pm1; rw [if_pos (by assumption), if_neg (by omega)]
          rw [show pmL l y n (n - k) k D = pmL l y n (n - (k + 1)) (k + 1) (pm1 l y n k D) from by rw [show n - k = (n - (k + 1)) + 1 from by omega]; rfl]
          have h0 := ih (n - (k + 1)) (by omega) (k + 1) _ rfl (by omega) hp1.1 hp1.2.2
          rw [hq] at h0 ⊢
          exact h0
        · refine T.iload dX9_putAll_286 rfl ?_
          refine T.iconst dX9_putAll_288 ?_
          refine T.iadd dX9_putAll_289 ?_
          refine T.istore (ls' := [some (rf E 29 0 0), some (.int (iI (l : Int))), none, none, none, none, some (.int (iI y)), none, some (.int (iI (n : Int))), some (.int (iI (k : Int))), some (.int (iI ((k : Int) + 1)))]) dX9_putAll_290 rfl ?_
          refine n_pa_e E m D l n k y hD (by omega) hn8 _ _ (k + 1) rfl (by omega) ?_
          have hg := geL_le (g := D 49) (n := n) (k := k) (n - (k + 1)) (k + 1) (by omega)
          refine T.aload_n dX9_putAll_317 rfl ?_
          refine T.iload_n dX9_putAll_318 rfl ?_
          refine T.iload dX9_putAll_319 rfl ?_
          refine T.iload dX9_putAll_321 rfl ?_
          refine T.iload dX9_putAll_323 rfl ?_
          refine T.cV0 (As := [.int (iI (l : Int)), .int (iI (k : Int)), .int (iI ((geL (D 49) n k (n - (k + 1)) (k + 1)) : Int)), .int (iI y)]) (st := []) dX9_putAll_325 lk_X9_164 (n_putParts E m D l k (geL (D 49) n k (n - (k + 1)) (k + 1)) y hD hl hy (by omega) (by omega) ho) ok29 rfl rfl (by decide) rfl rfl (Nat.le_of_ble_eq_true rfl) ?_
          refine T.iinc (ls' := [some (rf E 29 0 0), some (.int (iI (l : Int))), none, none, none, none, some (.int (iI y)), none, some (.int (iI (n : Int))), some (.int (iI ((k : Int) + 1))), some (.int (iI ((geL (D 49) n k (n - (k + 1)) (k + 1)) : Int)))]) dX9_putAll_328 rfl rfl ?_
          refine T.goto 227 dX9_putAll_331 ?_
          refine T.fgt (ls' := [some (rf E 29 0 0), some (.int (iI (l : Int))), none, none, none, none, some (.int (iI y)), none, some (.int (iI (n : Int))), some (.int (iI ((k : Int) + 1))), none]) (by simp [lsw]) ?_
          have hq : pm1 l y n k D = (ppS D l k (geL (D 49) n k (n - (k + 1)) (k + 1)) y) := by unfold pm1; rw [if_pos (by assumption), if_pos (by omega)]
          rw [show pmL l y n (n - k) k D = pmL l y n (n - (k + 1)) (k + 1) (pm1 l y n k D) from by rw [show n - k = (n - (k + 1)) + 1 from by omega]; rfl]
          have h0 := ih (n - (k + 1)) (by omega) (k + 1) _ rfl (by omega) hp1.1 hp1.2.2
          rw [hq] at h0 ⊢
          exact h0
      · refine T.aload_n dX9_putAll_244 rfl ?_
        refine T.dup dX9_putAll_245 ?_
        refine T.gL (z := D 29 15) dX9_putAll_246 fo_X9_149 ok29 rfl rfl (wrM_c rfl) ?_
        refine T.aload_n dX9_putAll_249 rfl ?_
        refine T.iload_n dX9_putAll_250 rfl ?_
        refine T.aload_n dX9_putAll_251 rfl ?_
        refine T.mget (v := rf E 47 0 0) dX9_putAll_252 fo_X9_51 ok29 rfl rfl ?_
        refine T.iload dX9_putAll_255 rfl ?_
        refine T.aI (z := D 47 k) (x := k) dX9_putAll_257 ok47 (fun _ => rfl) rfl (by omega) (wrM_c rfl) ?_
        have q5 : 0 ≤ D 47 k ∧ D 47 k ≤ 7 := hD 47 k rfl
        refine T.aload_n dX9_putAll_258 rfl ?_
        refine T.gL (z := D 29 15) dX9_putAll_259 fo_X9_149 ok29 rfl rfl (wrM_c rfl) ?_
        refine T.iload dX9_putAll_262 rfl ?_
        refine T.cV1 (As := [.int (iI (l : Int)), .int (iI (D 47 k)), .long (lI (D 29 15)), .int (iI y)]) (st := [.long (lI (D 29 15)), rf E 29 0 0]) dX9_putAll_264 lk_X9_153 (by have h0 := n_putTo E m D l (D 47 k).toNat (D 29 15) y hD hl (by omega) (by omega); rw [show (((D 47 k).toNat : Nat) : Int) = D 47 k from by omega] at h0; exact h0) ok29 rfl rfl (by decide) rfl rfl (Nat.le_of_ble_eq_true rfl) ?_
        have z6 := nts_bd (l := l) (d := (D 47 k).toNat) (a := D 29 15) hD (by omega)
        have b7 : 0 ≤ D 39 (D 47 k).toNat ∧ D 39 (D 47 k).toNat ≤ 99990000 := hD 39 (D 47 k).toNat rfl
        have b8 : 0 ≤ D 40 (D 47 k).toNat ∧ D 40 (D 47 k).toNat ≤ 4000000000 := hD 40 (D 47 k).toNat rfl
        refine T.lsub dX9_putAll_267 ?_
        refine T.nputL dX9_putAll_268 fp_X9_149 rfl ok29 rfl rfl (Nat.le_of_ble_eq_true rfl) ?_
        refine T.goto 328 dX9_putAll_271 ?_
        refine T.iinc (ls' := [some (rf E 29 0 0), some (.int (iI (l : Int))), none, none, none, none, some (.int (iI y)), none, some (.int (iI (n : Int))), some (.int (iI ((k : Int) + 1))), none]) dX9_putAll_328 rfl rfl ?_
        refine T.goto 227 dX9_putAll_331 ?_
        have hq : pm1 l y n k D = (upT (ntS D l (D 47 k).toNat (D 29 15) y) 29 15 ((D 29 15) - (ntR D l (D 47 k).toNat (D 29 15)))) := by unfold pm1; rw [if_neg (by assumption)]; rfl
        rw [show pmL l y n (n - k) k D = pmL l y n (n - (k + 1)) (k + 1) (pm1 l y n k D) from by rw [show n - k = (n - (k + 1)) + 1 from by omega]; rfl]
        have h0 := ih (n - (k + 1)) (by omega) (k + 1) _ rfl (by omega) hp1.1 hp1.2.2
        rw [hq] at h0 ⊢
        exact h0
set_option maxHeartbeats 4000000 in
set_option maxRecDepth 100000 in
theorem n_pa_g (E : Ev) (m : Mem) (S : PS) (l n : Nat) (y : Int) (hS : InvS kM S) (hl : l < 2) (hy : 0 ≤ y ∧ y ≤ 299) (hn8 : n ≤ 8) (ho : 0 ≤ S 29 15 ∧ S 29 15 ≤ 99990000) : ∀ (kk : Nat) (k : Nat) (D : PS), n - k = kk → k ≤ n → D = gpL S l y k → T E 4 mX9_putAll 159 [some (rf E 29 0 0), some (.int (iI (l : Int))), none, none, none, none, some (.int (iI y)), none, some (.int (iI (n : Int))), some (.int (iI (k : Int))), none] [] (hp E (wrM m D)) (fun r' h' => r' = none ∧ h' = hp E (wrM m (pa5 S l y n))) := by
  intro kk
  induction kk using Nat.strongRecOn with
  | ind kk ih =>
    intro k D hk hkn hDe
    have e37 : D 37 = S 37 := by rw [hDe, gpL_k (by decide)]
    have e47 : D 47 = S 47 := by rw [hDe, gpL_k (by decide)]
    have e4715 : D 29 15 = S 29 15 := by rw [hDe, gpL_k (by decide)]
    have hD : InvS kM D := by rw [hDe]; exact (gpL_ok hS k (by omega)).1
    have hcm : ∀ a b, cmM D l y a b = cmM S l y a b := fun a b => by
      have e31 : D 31 = S 31 := by rw [hDe, gpL_k (by decide)]
      have e33 : D 33 = S 33 := by rw [hDe, gpL_k (by decide)]
      have e29 : D 29 = S 29 := by rw [hDe, gpL_k (by decide)]
      have e36 : D 36 = S 36 := by rw [hDe, gpL_k (by decide)]
      have e39 : D 39 = S 39 := by rw [hDe, gpL_k (by decide)]
      have e40 : D 40 = S 40 := by rw [hDe, gpL_k (by decide)]
      unfold cmM bkM
      rw [e31, e33, e29, e36, e37, e39, e40]
    refine T.iload dX9_putAll_159 rfl ?_
    refine T.iload dX9_putAll_161 rfl ?_
    refine T.icmp_ge 224 dX9_putAll_163 (by unfold rg; omega) (by unfold rg; omega) (fun c1 => ?_) (fun c1 => ?_)
    · refine T.iconst dX9_putAll_224 ?_
      refine T.istore (ls' := [some (rf E 29 0 0), some (.int (iI (l : Int))), none, none, none, none, some (.int (iI y)), none, some (.int (iI (n : Int))), some (.int (iI 0)), none]) dX9_putAll_225 rfl ?_
      obtain rfl : k = n := by omega
      unfold pa5
      rw [← hDe]
      have h0 := n_pa_m E m l k y hl hy hn8 _ 0 D rfl (Nat.zero_le _) hD (by rw [e4715]; exact ho)
      exact h0
    · refine T.aload_n dX9_putAll_166 rfl ?_
      refine T.mget (v := rf E 49 0 0) dX9_putAll_167 fo_X9_57 ok29 rfl rfl ?_
      refine T.iload dX9_putAll_170 rfl ?_
      refine T.iload dX9_putAll_172 rfl ?_
      refine T.if_le 215 dX9_putAll_174 (by unfold rg; omega) (fun c2 => ?_) (fun c2 => ?_)
      · refine T.iload dX9_putAll_215 rfl ?_
        refine T.nist (x := k) dX9_putAll_217 rfl ok49 (fun _ => rfl) rfl (by omega) ?_
        refine T.iinc (ls' := [some (rf E 29 0 0), some (.int (iI (l : Int))), none, none, none, none, some (.int (iI y)), none, some (.int (iI (n : Int))), some (.int (iI ((k : Int) + 1))), none]) dX9_putAll_218 rfl rfl ?_
        refine T.goto 159 dX9_putAll_221 ?_
        refine ih (n - (k + 1)) (by omega) (k + 1) _ rfl (by omega) ?_
        rw [show gpL S l y (k + 1) = upT (gpL S l y k) 49 k (if 0 < k ∧ cmM S l y (S 47 (k - 1)).toNat (S 47 k).toNat = 0 then gpL S l y k 49 (k - 1) else k) from rfl, ← hDe, show (if 0 < k ∧ cmM S l y (S 47 (k - 1)).toNat (S 47 k).toNat = 0 then D 49 (k - 1) else (k : Int)) = (k : Int) from if_neg (fun z => by obtain ⟨z1, z2⟩ := z; omega)]
      · refine T.aload_n dX9_putAll_177 rfl ?_
        refine T.iload_n dX9_putAll_178 rfl ?_
        refine T.aload_n dX9_putAll_179 rfl ?_
        refine T.mget (v := rf E 47 0 0) dX9_putAll_180 fo_X9_51 ok29 rfl rfl ?_
        refine T.iload dX9_putAll_183 rfl ?_
        refine T.iconst dX9_putAll_185 ?_
        refine T.isub dX9_putAll_186 ?_
        refine T.aI (z := D 47 (k - 1)) (x := (k - 1)) dX9_putAll_187 ok47 (fun _ => rfl) (by omega) (by omega) (wrM_c rfl) ?_
        have q3 : 0 ≤ D 47 (k - 1) ∧ D 47 (k - 1) ≤ 7 := hD 47 (k - 1) rfl
        refine T.aload_n dX9_putAll_188 rfl ?_
        refine T.mget (v := rf E 47 0 0) dX9_putAll_189 fo_X9_51 ok29 rfl rfl ?_
        refine T.iload dX9_putAll_192 rfl ?_
        refine T.aI (z := D 47 k) (x := k) dX9_putAll_194 ok47 (fun _ => rfl) rfl (by omega) (wrM_c rfl) ?_
        have q4 : 0 ≤ D 47 k ∧ D 47 k ≤ 7 := hD 47 k rfl
        refine T.iload dX9_putAll_195 rfl ?_
        refine T.cV1 (As := [.int (iI (l : Int)), .int (iI (D 47 (k - 1))), .int (iI (D 47 k)), .int (iI y)]) (st := [.int (iI (k : Int)), rf E 49 0 0]) dX9_putAll_197 lk_X9_145 (by have h0 := n_cmp E m D l (S 47 (k - 1)).toNat (S 47 k).toNat y hD hl (by have := hS 47 (k - 1) rfl; have : 0 ≤ S 47 (k - 1) ∧ S 47 (k - 1) ≤ 7 := this; omega) (by have : 0 ≤ S 47 k ∧ S 47 k ≤ 7 := hS 47 k rfl; omega) hy; rw [hcm, show (((S 47 (k - 1)).toNat : Nat) : Int) = D 47 (k - 1) from by rw [e47]; have : 0 ≤ S 47 (k - 1) ∧ S 47 (k - 1) ≤ 7 := hS 47 (k - 1) rfl; omega, show (((S 47 k).toNat : Nat) : Int) = D 47 k from by rw [e47]; have : 0 ≤ S 47 k ∧ S 47 k ≤ 7 := hS 47 k rfl; omega] at h0; exact h0) ok29 rfl rfl (by decide) rfl rfl (Nat.le_of_ble_eq_true rfl) ?_
        have hr : -1 ≤ cmM S l y (S 47 (k - 1)).toNat (S 47 k).toNat ∧ cmM S l y (S 47 (k - 1)).toNat (S 47 k).toNat ≤ 1 := cmpN_rg (bkM S) y (fun x => S 39 x + S 40 x) (fun k => S 36 (12 * l + k)) (S 47 (k - 1)).toNat (S 47 k).toNat (S 37 l).toNat
        refine T.if_ne 215 dX9_putAll_200 (by unfold rg; omega) (fun c5 => ?_) (fun c5 => ?_)
        · refine T.iload dX9_putAll_215 rfl ?_
          refine T.nist (x := k) dX9_putAll_217 rfl ok49 (fun _ => rfl) rfl (by omega) ?_
          refine T.iinc (ls' := [some (rf E 29 0 0), some (.int (iI (l : Int))), none, none, none, none, some (.int (iI y)), none, some (.int (iI (n : Int))), some (.int (iI ((k : Int) + 1))), none]) dX9_putAll_218 rfl rfl ?_
          refine T.goto 159 dX9_putAll_221 ?_
          refine ih (n - (k + 1)) (by omega) (k + 1) _ rfl (by omega) ?_
          rw [show gpL S l y (k + 1) = upT (gpL S l y k) 49 k (if 0 < k ∧ cmM S l y (S 47 (k - 1)).toNat (S 47 k).toNat = 0 then gpL S l y k 49 (k - 1) else k) from rfl, ← hDe, show (if 0 < k ∧ cmM S l y (S 47 (k - 1)).toNat (S 47 k).toNat = 0 then D 49 (k - 1) else (k : Int)) = (k : Int) from if_neg (fun z => by obtain ⟨z1, z2⟩ := z; omega)]
        · refine T.aload_n dX9_putAll_203 rfl ?_
          refine T.mget (v := rf E 49 0 0) dX9_putAll_204 fo_X9_57 ok29 rfl rfl ?_
          refine T.iload dX9_putAll_207 rfl ?_
          refine T.iconst dX9_putAll_209 ?_
          refine T.isub dX9_putAll_210 ?_
          refine T.aI (z := D 49 (k - 1)) (x := (k - 1)) dX9_putAll_211 ok49 (fun _ => rfl) (by omega) (by omega) (wrM_c rfl) ?_
          have q6 : 0 ≤ D 49 (k - 1) ∧ D 49 (k - 1) ≤ 7 := hD 49 (k - 1) rfl
          refine T.goto 217 dX9_putAll_212 ?_
          refine T.nist (x := k) dX9_putAll_217 rfl ok49 (fun _ => rfl) rfl (by omega) ?_
          refine T.iinc (ls' := [some (rf E 29 0 0), some (.int (iI (l : Int))), none, none, none, none, some (.int (iI y)), none, some (.int (iI (n : Int))), some (.int (iI ((k : Int) + 1))), none]) dX9_putAll_218 rfl rfl ?_
          refine T.goto 159 dX9_putAll_221 ?_
          refine ih (n - (k + 1)) (by omega) (k + 1) _ rfl (by omega) ?_
          rw [show gpL S l y (k + 1) = upT (gpL S l y k) 49 k (if 0 < k ∧ cmM S l y (S 47 (k - 1)).toNat (S 47 k).toNat = 0 then gpL S l y k 49 (k - 1) else k) from rfl, ← hDe, show (if 0 < k ∧ cmM S l y (S 47 (k - 1)).toNat (S 47 k).toNat = 0 then D 49 (k - 1) else (k : Int)) = D 49 (k - 1) from if_pos ⟨by omega, by omega⟩]
set_option maxHeartbeats 4000000 in
set_option maxRecDepth 100000 in
theorem n_pa_147 (E : Ev) (m : Mem) (S : PS) (l : Nat) (y : Int) (hS : InvS kM S) (hl : l < 2) (hy : 0 ≤ y ∧ y ≤ 299) (ho : 0 ≤ S 29 15 ∧ S 29 15 ≤ 99990000) : T E 4 mX9_putAll 147 [some (rf E 29 0 0), some (.int (iI (l : Int))), none, none, none, none, some (.int (iI y)), none, none, none, none] [] (hp E (wrM m S)) (fun r' h' => r' = none ∧ h' = hp E (wrM m (pa4 S l y))) := by
  refine T.aload_n dX9_putAll_147 rfl ?_
  refine T.iload_n dX9_putAll_148 rfl ?_
  refine T.iload dX9_putAll_149 rfl ?_
  refine T.cV1 (As := [.int (iI (l : Int)), .int (iI y)]) (st := []) dX9_putAll_151 lk_X9_160 (n_order E m S l y hS hl hy) ok29 rfl rfl (by decide) rfl rfl (Nat.le_of_ble_eq_true rfl) ?_
  refine T.istore (ls' := [some (rf E 29 0 0), some (.int (iI (l : Int))), none, none, none, none, some (.int (iI y)), none, some (.int (iI ((orM S l y).1 : Int))), none, none]) dX9_putAll_154 rfl ?_
  refine T.iconst dX9_putAll_156 ?_
  refine T.istore (ls' := [some (rf E 29 0 0), some (.int (iI (l : Int))), none, none, none, none, some (.int (iI y)), none, some (.int (iI ((orM S l y).1 : Int))), some (.int (iI 0)), none]) dX9_putAll_157 rfl ?_
  have q0 : 0 ≤ S 29 0 ∧ S 29 0 ≤ 8 := hS 29 0 rfl
  exact n_pa_g E m (setT S 47 (orM S l y).2) l (orM S l y).1 y (hS.set (fun x => ordL_rg (fun x => hS 47 x rfl) _ (by omega) x)) hl hy (Nat.le_trans (ordL_n _) (by omega)) (by rw [setT_d (by decide)]; exact ho) _ 0 _ rfl (Nat.zero_le _) rfl
set_option maxHeartbeats 4000000 in
set_option maxRecDepth 100000 in
theorem n_pa_120 (E : Ev) (m : Mem) (S : PS) (l : Nat) (y t : Int) (hS : InvS kM S) (hl : l < 2) (hy : 0 ≤ y ∧ y ≤ 299) (ho : 0 ≤ S 29 15 ∧ S 29 15 ≤ 99990000) (ht : -4 ≤ t ∧ t ≤ 7) : T E 4 mX9_putAll 120 [some (rf E 29 0 0), some (.int (iI (l : Int))), none, none, none, none, some (.int (iI y)), some (.int (iI t)), none, none, none] [] (hp E (wrM m S)) (fun r' h' => r' = none ∧ h' = hp E (wrM m (pa4 (pa3 S l y t) l y))) := by
  refine T.iload dX9_putAll_120 rfl ?_
  refine T.if_lt 147 dX9_putAll_122 (by unfold rg; omega) (fun c1 => ?_) (fun c1 => ?_)
  · refine T.fgt (ls' := [some (rf E 29 0 0), some (.int (iI (l : Int))), none, none, none, none, some (.int (iI y)), none, none, none, none]) (by simp [lsw]) ?_
    rw [show pa3 S l y t = S from if_neg (by omega)]
    exact n_pa_147 E m S l y hS hl hy ho
  · refine T.aload_n dX9_putAll_125 rfl ?_
    refine T.dup dX9_putAll_126 ?_
    refine T.gL (z := S 29 15) dX9_putAll_127 fo_X9_149 ok29 rfl rfl (wrM_c rfl) ?_
    refine T.aload_n dX9_putAll_130 rfl ?_
    refine T.iload_n dX9_putAll_131 rfl ?_
    refine T.iload dX9_putAll_132 rfl ?_
    refine T.aload_n dX9_putAll_134 rfl ?_
    refine T.gL (z := S 29 15) dX9_putAll_135 fo_X9_149 ok29 rfl rfl (wrM_c rfl) ?_
    refine T.iload dX9_putAll_138 rfl ?_
    refine T.cV1 (As := [.int (iI (l : Int)), .int (iI t), .long (lI (S 29 15)), .int (iI y)]) (st := [.long (lI (S 29 15)), rf E 29 0 0]) dX9_putAll_140 lk_X9_153 (by have h0 := n_putTo E m S l (t).toNat (S 29 15) y hS hl (by omega) (by omega); rw [show (((t).toNat : Nat) : Int) = t from by omega] at h0; exact h0) ok29 rfl rfl (by decide) rfl rfl (Nat.le_of_ble_eq_true rfl) ?_
    have z2 := nts_bd (l := l) (d := (t).toNat) (a := S 29 15) hS (by omega)
    have b3 : 0 ≤ S 39 (t).toNat ∧ S 39 (t).toNat ≤ 99990000 := hS 39 (t).toNat rfl
    have b4 : 0 ≤ S 40 (t).toNat ∧ S 40 (t).toNat ≤ 4000000000 := hS 40 (t).toNat rfl
    refine T.lsub dX9_putAll_143 ?_
    refine T.nputL dX9_putAll_144 fp_X9_149 rfl ok29 rfl rfl (Nat.le_of_ble_eq_true rfl) ?_
    refine T.fgt (ls' := [some (rf E 29 0 0), some (.int (iI (l : Int))), none, none, none, none, some (.int (iI y)), none, none, none, none]) (by simp [lsw]) ?_
    have h1 := paT_ok (l := l) (d := t.toNat) hS hy ho
    rw [show pa3 S l y t = paT S l t.toNat y from if_pos (by omega)]
    exact n_pa_147 E m (paT S l t.toNat y) l y h1.1 hl hy h1.2.2
set_option maxHeartbeats 4000000 in
set_option maxRecDepth 100000 in
theorem n_pa_54 (E : Ev) (m : Mem) (S : PS) (l : Nat) (w an y : Int) (hS : InvS kM S) (hl : l < 2) (hy : 0 ≤ y ∧ y ≤ 299) (ho : 0 ≤ S 29 15 ∧ S 29 15 ≤ 99990000) (hw : -1 ≤ w ∧ w ≤ 7) (han : -1 ≤ an ∧ an ≤ 7) : T E 4 mX9_putAll 54 [some (rf E 29 0 0), some (.int (iI (l : Int))), none, none, some (.int (iI w)), some (.int (iI an)), some (.int (iI y)), none, none, none, none] [] (hp E (wrM m S)) (fun r' h' => r' = none ∧ h' = hp E (wrM m (pa4 (pa3 S l y (chM S l w an)) l y))) := by
  refine T.aload_n dX9_putAll_54 rfl ?_
  refine T.iload_n dX9_putAll_55 rfl ?_
  refine T.bipush dX9_putAll_56 ?_
  refine T.cV1 (As := [.int (iI (l : Int)), .int (iI 99)]) (st := []) dX9_putAll_58 lk_X9_141 (n_has E m S l 99 hS hl (by decide)) ok29 rfl rfl (by decide) rfl rfl (Nat.le_of_ble_eq_true rfl) ?_
  refine T.ifB_eq 85 dX9_putAll_61 (fun c1 => ?_) (fun c1 => ?_)
  · refine T.aload_n dX9_putAll_85 rfl ?_
    refine T.iload_n dX9_putAll_86 rfl ?_
    refine T.bipush dX9_putAll_87 ?_
    refine T.cV1 (As := [.int (iI (l : Int)), .int (iI 116)]) (st := []) dX9_putAll_89 lk_X9_141 (n_has E m S l 116 hS hl (by decide)) ok29 rfl rfl (by decide) rfl rfl (Nat.le_of_ble_eq_true rfl) ?_
    refine T.ifB_eq 116 dX9_putAll_92 (fun c2 => ?_) (fun c2 => ?_)
    · refine T.bipush dX9_putAll_116 ?_
      refine T.istore (ls' := [some (rf E 29 0 0), some (.int (iI (l : Int))), none, none, some (.int (iI w)), some (.int (iI an)), some (.int (iI y)), some (.int (iI (-4))), none, none, none]) dX9_putAll_118 rfl ?_
      refine T.fgt (ls' := [some (rf E 29 0 0), some (.int (iI (l : Int))), none, none, none, none, some (.int (iI y)), some (.int (iI (-4))), none, none, none]) (by simp [lsw]) ?_
      rw [show chM S l w an = (-4) from (if_neg (fun z => by obtain ⟨z1, z2, z3⟩ := z; first | omega | contradiction)).trans (if_neg (fun z => by obtain ⟨z1, z2, z3⟩ := z; first | omega | contradiction))]
      exact n_pa_120 E m S l y ((-4)) hS hl hy ho (by omega)
    · refine T.iload dX9_putAll_95 rfl ?_
      refine T.if_lt 116 dX9_putAll_97 (by unfold rg; omega) (fun c3 => ?_) (fun c3 => ?_)
      · refine T.bipush dX9_putAll_116 ?_
        refine T.istore (ls' := [some (rf E 29 0 0), some (.int (iI (l : Int))), none, none, some (.int (iI w)), some (.int (iI an)), some (.int (iI y)), some (.int (iI (-4))), none, none, none]) dX9_putAll_118 rfl ?_
        refine T.fgt (ls' := [some (rf E 29 0 0), some (.int (iI (l : Int))), none, none, none, none, some (.int (iI y)), some (.int (iI (-4))), none, none, none]) (by simp [lsw]) ?_
        rw [show chM S l w an = (-4) from (if_neg (fun z => by obtain ⟨z1, z2, z3⟩ := z; first | omega | contradiction)).trans (if_neg (fun z => by obtain ⟨z1, z2, z3⟩ := z; first | omega | contradiction))]
        exact n_pa_120 E m S l y ((-4)) hS hl hy ho (by omega)
      · refine T.aload_n dX9_putAll_100 rfl ?_
        refine T.iload dX9_putAll_101 rfl ?_
        refine T.cV1 (As := [.int (iI an)]) (st := []) dX9_putAll_103 lk_X9_137 (by have h0 := n_leftOf E m S (an).toNat (by omega); rw [show (((an).toNat : Nat) : Int) = an from by omega] at h0; exact h0) ok29 rfl rfl (by decide) rfl rfl (Nat.le_of_ble_eq_true rfl) ?_
        have b4 : 0 ≤ S 39 (an).toNat ∧ S 39 (an).toNat ≤ 99990000 := hS 39 (an).toNat rfl
        have b5 : 0 ≤ S 40 (an).toNat ∧ S 40 (an).toNat ≤ 4000000000 := hS 40 (an).toNat rfl
        refine T.lconst0 dX9_putAll_106 ?_
        refine T.lcmp_le 116 dX9_putAll_107 dX9_putAll_108 (by unfold rl; omega) (by unfold rl; omega) (fun c6 => ?_) (fun c6 => ?_)
        · refine T.bipush dX9_putAll_116 ?_
          refine T.istore (ls' := [some (rf E 29 0 0), some (.int (iI (l : Int))), none, none, some (.int (iI w)), some (.int (iI an)), some (.int (iI y)), some (.int (iI (-4))), none, none, none]) dX9_putAll_118 rfl ?_
          refine T.fgt (ls' := [some (rf E 29 0 0), some (.int (iI (l : Int))), none, none, none, none, some (.int (iI y)), some (.int (iI (-4))), none, none, none]) (by simp [lsw]) ?_
          rw [show chM S l w an = (-4) from (if_neg (fun z => by obtain ⟨z1, z2, z3⟩ := z; first | omega | contradiction)).trans (if_neg (fun z => by obtain ⟨z1, z2, z3⟩ := z; first | omega | contradiction))]
          exact n_pa_120 E m S l y ((-4)) hS hl hy ho (by omega)
        · refine T.iload dX9_putAll_111 rfl ?_
          refine T.goto 118 dX9_putAll_113 ?_
          refine T.istore (ls' := [some (rf E 29 0 0), some (.int (iI (l : Int))), none, none, some (.int (iI w)), some (.int (iI an)), some (.int (iI y)), some (.int (iI an)), none, none, none]) dX9_putAll_118 rfl ?_
          refine T.fgt (ls' := [some (rf E 29 0 0), some (.int (iI (l : Int))), none, none, none, none, some (.int (iI y)), some (.int (iI an)), none, none, none]) (by simp [lsw]) ?_
          rw [show chM S l w an = an from (if_neg (fun z => by obtain ⟨z1, z2, z3⟩ := z; first | omega | contradiction)).trans (if_pos ⟨by assumption, by omega, by omega⟩)]
          exact n_pa_120 E m S l y (an) hS hl hy ho (by omega)
  · refine T.iload dX9_putAll_64 rfl ?_
    refine T.if_lt 85 dX9_putAll_66 (by unfold rg; omega) (fun c7 => ?_) (fun c7 => ?_)
    · refine T.aload_n dX9_putAll_85 rfl ?_
      refine T.iload_n dX9_putAll_86 rfl ?_
      refine T.bipush dX9_putAll_87 ?_
      refine T.cV1 (As := [.int (iI (l : Int)), .int (iI 116)]) (st := []) dX9_putAll_89 lk_X9_141 (n_has E m S l 116 hS hl (by decide)) ok29 rfl rfl (by decide) rfl rfl (Nat.le_of_ble_eq_true rfl) ?_
      refine T.ifB_eq 116 dX9_putAll_92 (fun c8 => ?_) (fun c8 => ?_)
      · refine T.bipush dX9_putAll_116 ?_
        refine T.istore (ls' := [some (rf E 29 0 0), some (.int (iI (l : Int))), none, none, some (.int (iI w)), some (.int (iI an)), some (.int (iI y)), some (.int (iI (-4))), none, none, none]) dX9_putAll_118 rfl ?_
        refine T.fgt (ls' := [some (rf E 29 0 0), some (.int (iI (l : Int))), none, none, none, none, some (.int (iI y)), some (.int (iI (-4))), none, none, none]) (by simp [lsw]) ?_
        rw [show chM S l w an = (-4) from (if_neg (fun z => by obtain ⟨z1, z2, z3⟩ := z; first | omega | contradiction)).trans (if_neg (fun z => by obtain ⟨z1, z2, z3⟩ := z; first | omega | contradiction))]
        exact n_pa_120 E m S l y ((-4)) hS hl hy ho (by omega)
      · refine T.iload dX9_putAll_95 rfl ?_
        refine T.if_lt 116 dX9_putAll_97 (by unfold rg; omega) (fun c9 => ?_) (fun c9 => ?_)
        · refine T.bipush dX9_putAll_116 ?_
          refine T.istore (ls' := [some (rf E 29 0 0), some (.int (iI (l : Int))), none, none, some (.int (iI w)), some (.int (iI an)), some (.int (iI y)), some (.int (iI (-4))), none, none, none]) dX9_putAll_118 rfl ?_
          refine T.fgt (ls' := [some (rf E 29 0 0), some (.int (iI (l : Int))), none, none, none, none, some (.int (iI y)), some (.int (iI (-4))), none, none, none]) (by simp [lsw]) ?_
          rw [show chM S l w an = (-4) from (if_neg (fun z => by obtain ⟨z1, z2, z3⟩ := z; first | omega | contradiction)).trans (if_neg (fun z => by obtain ⟨z1, z2, z3⟩ := z; first | omega | contradiction))]
          exact n_pa_120 E m S l y ((-4)) hS hl hy ho (by omega)
        · refine T.aload_n dX9_putAll_100 rfl ?_
          refine T.iload dX9_putAll_101 rfl ?_
          refine T.cV1 (As := [.int (iI an)]) (st := []) dX9_putAll_103 lk_X9_137 (by have h0 := n_leftOf E m S (an).toNat (by omega); rw [show (((an).toNat : Nat) : Int) = an from by omega] at h0; exact h0) ok29 rfl rfl (by decide) rfl rfl (Nat.le_of_ble_eq_true rfl) ?_
          have b10 : 0 ≤ S 39 (an).toNat ∧ S 39 (an).toNat ≤ 99990000 := hS 39 (an).toNat rfl
          have b11 : 0 ≤ S 40 (an).toNat ∧ S 40 (an).toNat ≤ 4000000000 := hS 40 (an).toNat rfl
          refine T.lconst0 dX9_putAll_106 ?_
          refine T.lcmp_le 116 dX9_putAll_107 dX9_putAll_108 (by unfold rl; omega) (by unfold rl; omega) (fun c12 => ?_) (fun c12 => ?_)
          · refine T.bipush dX9_putAll_116 ?_
            refine T.istore (ls' := [some (rf E 29 0 0), some (.int (iI (l : Int))), none, none, some (.int (iI w)), some (.int (iI an)), some (.int (iI y)), some (.int (iI (-4))), none, none, none]) dX9_putAll_118 rfl ?_
            refine T.fgt (ls' := [some (rf E 29 0 0), some (.int (iI (l : Int))), none, none, none, none, some (.int (iI y)), some (.int (iI (-4))), none, none, none]) (by simp [lsw]) ?_
            rw [show chM S l w an = (-4) from (if_neg (fun z => by obtain ⟨z1, z2, z3⟩ := z; first | omega | contradiction)).trans (if_neg (fun z => by obtain ⟨z1, z2, z3⟩ := z; first | omega | contradiction))]
            exact n_pa_120 E m S l y ((-4)) hS hl hy ho (by omega)
          · refine T.iload dX9_putAll_111 rfl ?_
            refine T.goto 118 dX9_putAll_113 ?_
            refine T.istore (ls' := [some (rf E 29 0 0), some (.int (iI (l : Int))), none, none, some (.int (iI w)), some (.int (iI an)), some (.int (iI y)), some (.int (iI an)), none, none, none]) dX9_putAll_118 rfl ?_
            refine T.fgt (ls' := [some (rf E 29 0 0), some (.int (iI (l : Int))), none, none, none, none, some (.int (iI y)), some (.int (iI an)), none, none, none]) (by simp [lsw]) ?_
            rw [show chM S l w an = an from (if_neg (fun z => by obtain ⟨z1, z2, z3⟩ := z; first | omega | contradiction)).trans (if_pos ⟨by assumption, by omega, by omega⟩)]
            exact n_pa_120 E m S l y (an) hS hl hy ho (by omega)
    · refine T.aload_n dX9_putAll_69 rfl ?_
      refine T.iload dX9_putAll_70 rfl ?_
      refine T.cV1 (As := [.int (iI w)]) (st := []) dX9_putAll_72 lk_X9_137 (by have h0 := n_leftOf E m S (w).toNat (by omega); rw [show (((w).toNat : Nat) : Int) = w from by omega] at h0; exact h0) ok29 rfl rfl (by decide) rfl rfl (Nat.le_of_ble_eq_true rfl) ?_
      have b13 : 0 ≤ S 39 (w).toNat ∧ S 39 (w).toNat ≤ 99990000 := hS 39 (w).toNat rfl
      have b14 : 0 ≤ S 40 (w).toNat ∧ S 40 (w).toNat ≤ 4000000000 := hS 40 (w).toNat rfl
      refine T.lconst0 dX9_putAll_75 ?_
      refine T.lcmp_le 85 dX9_putAll_76 dX9_putAll_77 (by unfold rl; omega) (by unfold rl; omega) (fun c15 => ?_) (fun c15 => ?_)
      · refine T.aload_n dX9_putAll_85 rfl ?_
        refine T.iload_n dX9_putAll_86 rfl ?_
        refine T.bipush dX9_putAll_87 ?_
        refine T.cV1 (As := [.int (iI (l : Int)), .int (iI 116)]) (st := []) dX9_putAll_89 lk_X9_141 (n_has E m S l 116 hS hl (by decide)) ok29 rfl rfl (by decide) rfl rfl (Nat.le_of_ble_eq_true rfl) ?_
        refine T.ifB_eq 116 dX9_putAll_92 (fun c16 => ?_) (fun c16 => ?_)
        · refine T.bipush dX9_putAll_116 ?_
          refine T.istore (ls' := [some (rf E 29 0 0), some (.int (iI (l : Int))), none, none, some (.int (iI w)), some (.int (iI an)), some (.int (iI y)), some (.int (iI (-4))), none, none, none]) dX9_putAll_118 rfl ?_
          refine T.fgt (ls' := [some (rf E 29 0 0), some (.int (iI (l : Int))), none, none, none, none, some (.int (iI y)), some (.int (iI (-4))), none, none, none]) (by simp [lsw]) ?_
          rw [show chM S l w an = (-4) from (if_neg (fun z => by obtain ⟨z1, z2, z3⟩ := z; first | omega | contradiction)).trans (if_neg (fun z => by obtain ⟨z1, z2, z3⟩ := z; first | omega | contradiction))]
          exact n_pa_120 E m S l y ((-4)) hS hl hy ho (by omega)
        · refine T.iload dX9_putAll_95 rfl ?_
          refine T.if_lt 116 dX9_putAll_97 (by unfold rg; omega) (fun c17 => ?_) (fun c17 => ?_)
          · refine T.bipush dX9_putAll_116 ?_
            refine T.istore (ls' := [some (rf E 29 0 0), some (.int (iI (l : Int))), none, none, some (.int (iI w)), some (.int (iI an)), some (.int (iI y)), some (.int (iI (-4))), none, none, none]) dX9_putAll_118 rfl ?_
            refine T.fgt (ls' := [some (rf E 29 0 0), some (.int (iI (l : Int))), none, none, none, none, some (.int (iI y)), some (.int (iI (-4))), none, none, none]) (by simp [lsw]) ?_
            rw [show chM S l w an = (-4) from (if_neg (fun z => by obtain ⟨z1, z2, z3⟩ := z; first | omega | contradiction)).trans (if_neg (fun z => by obtain ⟨z1, z2, z3⟩ := z; first | omega | contradiction))]
            exact n_pa_120 E m S l y ((-4)) hS hl hy ho (by omega)
          · refine T.aload_n dX9_putAll_100 rfl ?_
            refine T.iload dX9_putAll_101 rfl ?_
            refine T.cV1 (As := [.int (iI an)]) (st := []) dX9_putAll_103 lk_X9_137 (by have h0 := n_leftOf E m S (an).toNat (by omega); rw [show (((an).toNat : Nat) : Int) = an from by omega] at h0; exact h0) ok29 rfl rfl (by decide) rfl rfl (Nat.le_of_ble_eq_true rfl) ?_
            have b18 : 0 ≤ S 39 (an).toNat ∧ S 39 (an).toNat ≤ 99990000 := hS 39 (an).toNat rfl
            have b19 : 0 ≤ S 40 (an).toNat ∧ S 40 (an).toNat ≤ 4000000000 := hS 40 (an).toNat rfl
            refine T.lconst0 dX9_putAll_106 ?_
            refine T.lcmp_le 116 dX9_putAll_107 dX9_putAll_108 (by unfold rl; omega) (by unfold rl; omega) (fun c20 => ?_) (fun c20 => ?_)
            · refine T.bipush dX9_putAll_116 ?_
              refine T.istore (ls' := [some (rf E 29 0 0), some (.int (iI (l : Int))), none, none, some (.int (iI w)), some (.int (iI an)), some (.int (iI y)), some (.int (iI (-4))), none, none, none]) dX9_putAll_118 rfl ?_
              refine T.fgt (ls' := [some (rf E 29 0 0), some (.int (iI (l : Int))), none, none, none, none, some (.int (iI y)), some (.int (iI (-4))), none, none, none]) (by simp [lsw]) ?_
              rw [show chM S l w an = (-4) from (if_neg (fun z => by obtain ⟨z1, z2, z3⟩ := z; first | omega | contradiction)).trans (if_neg (fun z => by obtain ⟨z1, z2, z3⟩ := z; first | omega | contradiction))]
              exact n_pa_120 E m S l y ((-4)) hS hl hy ho (by omega)
            · refine T.iload dX9_putAll_111 rfl ?_
              refine T.goto 118 dX9_putAll_113 ?_
              refine T.istore (ls' := [some (rf E 29 0 0), some (.int (iI (l : Int))), none, none, some (.int (iI w)), some (.int (iI an)), some (.int (iI y)), some (.int (iI an)), none, none, none]) dX9_putAll_118 rfl ?_
              refine T.fgt (ls' := [some (rf E 29 0 0), some (.int (iI (l : Int))), none, none, none, none, some (.int (iI y)), some (.int (iI an)), none, none, none]) (by simp [lsw]) ?_
              rw [show chM S l w an = an from (if_neg (fun z => by obtain ⟨z1, z2, z3⟩ := z; first | omega | contradiction)).trans (if_pos ⟨by assumption, by omega, by omega⟩)]
              exact n_pa_120 E m S l y (an) hS hl hy ho (by omega)
      · refine T.iload dX9_putAll_80 rfl ?_
        refine T.goto 118 dX9_putAll_82 ?_
        refine T.istore (ls' := [some (rf E 29 0 0), some (.int (iI (l : Int))), none, none, some (.int (iI w)), some (.int (iI an)), some (.int (iI y)), some (.int (iI w)), none, none, none]) dX9_putAll_118 rfl ?_
        refine T.fgt (ls' := [some (rf E 29 0 0), some (.int (iI (l : Int))), none, none, none, none, some (.int (iI y)), some (.int (iI w)), none, none, none]) (by simp [lsw]) ?_
        rw [show chM S l w an = w from if_pos ⟨by assumption, by omega, by omega⟩]
        exact n_pa_120 E m S l y (w) hS hl hy ho (by omega)
set_option maxHeartbeats 4000000 in
set_option maxRecDepth 100000 in
theorem n_pa_a (E : Ev) (m : Mem) (S : PS) (l : Nat) (a w an y : Int) (hS : InvS kM S) (hl : l < 2) (hy : 0 ≤ y ∧ y ≤ 299) (ha : 0 ≤ a ∧ a ≤ 99990000) (hw : -1 ≤ w ∧ w ≤ 7) (han : -1 ≤ an ∧ an ≤ 7) (n : Nat) (hn : S 29 0 = n) : ∀ (k : Nat) (d : Nat) (D : PS), n - d = k → d ≤ n → D = paL S y d → T E 4 mX9_putAll 3 [some (rf E 29 0 0), some (.int (iI (l : Int))), some (.long (lI a)), none, some (.int (iI w)), some (.int (iI an)), some (.int (iI y)), some (.int (iI (d : Int))), none, none, none] [] (hp E (wrM m D)) (fun r' h' => r' = none ∧ h' = hp E (wrM m (paS S l a w an y))) := by
  have hn8 : 0 ≤ S 29 0 ∧ S 29 0 ≤ 8 := hS 29 0 rfl
  intro k
  induction k using Nat.strongRecOn with
  | ind k ih =>
    intro d D hk hdn hD
    have hDI : InvS kM D := by rw [hD]; exact (paL_ok hS d).1
    have e29 : D 29 = S 29 := by rw [hD, paL_k (by decide)]
    have e290 : D 29 0 = S 29 0 := by rw [e29]
    have hdy : dyM (upT (upT D 43 d 0) 44 d 0) d y ↔ dyM S d y := by
      show (0 < D 39 d + D 40 d ∧ 0 < D 31 (8 * d + 7) ∧ D 31 (8 * d + 7) < y - max (D 31 (8 * d + 2)) (D 41 d)) ↔ _
      rw [hD, paL_k (by decide), paL_k (by decide), paL_k (by decide), paL_k (by decide)]
    have hD2 : InvS kM (upT (upT D 43 d 0) 44 d 0) := (hDI.up (by show True; trivial)).up (by show True; trivial)
    refine T.iload dX9_putAll_3 rfl ?_
    refine T.aload_n dX9_putAll_5 rfl ?_
    refine T.gI (z := D 29 0) dX9_putAll_6 fo_X9_87 ok29 rfl rfl (wrM_c rfl) ?_
    have q1 : 0 ≤ D 29 0 ∧ D 29 0 ≤ 8 := hDI 29 0 rfl
    refine T.icmp_ge 49 dX9_putAll_9 (by unfold rg; omega) (by unfold rg; omega) (fun c2 => ?_) (fun c2 => ?_)
    · refine T.aload_n dX9_putAll_49 rfl ?_
      refine T.lload_n dX9_putAll_50 rfl ?_
      refine T.nputL dX9_putAll_51 fp_X9_149 rfl ok29 rfl rfl (Nat.le_of_ble_eq_true rfl) ?_
      refine T.fgt (ls' := [some (rf E 29 0 0), some (.int (iI (l : Int))), none, none, some (.int (iI w)), some (.int (iI an)), some (.int (iI y)), none, none, none, none]) (by simp [lsw]) ?_
      have h2 := pa2_ok (a := a) (y := y) hS
      have hq : pa2 S a y = upT D 29 15 a := by unfold pa2; rw [hD, show (S 29 0).toNat = d from by omega]
      unfold paS
      rw [hq] at h2 ⊢
      exact n_pa_54 E m _ l w an y h2.1 hl hy (by rw [upT_self]; exact ha) hw han
    · refine T.aload_n dX9_putAll_12 rfl ?_
      refine T.mget (v := rf E 43 0 0) dX9_putAll_13 fo_X9_41 ok29 rfl rfl ?_
      refine T.iload dX9_putAll_16 rfl ?_
      refine T.lconst0 dX9_putAll_18 ?_
      refine T.nlst (x := d) dX9_putAll_19 rfl ok43 (fun _ => rfl) rfl (by omega) ?_
      refine T.aload_n dX9_putAll_20 rfl ?_
      refine T.mget (v := rf E 44 0 0) dX9_putAll_21 fo_X9_44 ok29 rfl rfl ?_
      refine T.iload dX9_putAll_24 rfl ?_
      refine T.lconst0 dX9_putAll_26 ?_
      refine T.nlst (x := d) dX9_putAll_27 rfl ok44 (fun _ => rfl) rfl (by omega) ?_
      refine T.aload_n dX9_putAll_28 rfl ?_
      refine T.mget (v := rf E 46 0 0) dX9_putAll_29 fo_X9_47 ok29 rfl rfl ?_
      refine T.iload dX9_putAll_32 rfl ?_
      refine T.aload_n dX9_putAll_34 rfl ?_
      refine T.iload dX9_putAll_35 rfl ?_
      refine T.iload dX9_putAll_37 rfl ?_
      refine T.cV1 (As := [.int (iI (d : Int)), .int (iI y)]) (st := [.int (iI (d : Int)), rf E 46 0 0]) dX9_putAll_39 lk_X9_157 (by have h0 := n_isDead E m (upT (upT D 43 d 0) 44 d 0) d y hD2 (by omega) hy; rw [bZ_iff hdy] at h0; exact h0) ok29 rfl rfl (by decide) rfl rfl (Nat.le_of_ble_eq_true rfl) ?_
      refine T.nzst (x := d) dX9_putAll_42 rfl ok46 (fun _ => rfl) rfl (by omega) (bZ_01 _) ?_
      refine T.iinc (ls' := [some (rf E 29 0 0), some (.int (iI (l : Int))), some (.long (lI a)), none, some (.int (iI w)), some (.int (iI an)), some (.int (iI y)), some (.int (iI ((d : Int) + 1))), none, none, none]) dX9_putAll_43 rfl rfl ?_
      refine T.goto 3 dX9_putAll_46 ?_
      exact ih (n - (d + 1)) (by omega) (d + 1) _ rfl (by omega) (by rw [hD]; rfl)
set_option maxHeartbeats 4000000 in
set_option maxRecDepth 100000 in
theorem n_putAll (E : Ev) (m : Mem) (S : PS) (l : Nat) (a w an y : Int) (hS : InvS kM S) (hl : l < 2) (hy : 0 ≤ y ∧ y ≤ 299) (ha : 0 ≤ a ∧ a ≤ 99990000) (hw : -1 ≤ w ∧ w ≤ 7) (han : -1 ≤ an ∧ an ≤ 7) : CT E 4 mX9_putAll [rf E 29 0 0, .int (iI (l : Int)), .long (lI a), .int (iI w), .int (iI an), .int (iI y)] (hp E (wrM m S)) (none) (hp E (wrM m (paS S l a w an y))) := by
  refine CT.go okX9_putAll (Nat.le_of_ble_eq_true rfl) ?_
  show T E 4 mX9_putAll 0 [some (rf E 29 0 0), some (.int (iI (l : Int))), some (.long (lI a)), none, some (.int (iI w)), some (.int (iI an)), some (.int (iI y)), none, none, none, none] [] (hp E (wrM m S)) _
  have hn8 : 0 ≤ S 29 0 ∧ S 29 0 ≤ 8 := hS 29 0 rfl
  refine T.iconst dX9_putAll_0 ?_
  refine T.istore (ls' := [some (rf E 29 0 0), some (.int (iI (l : Int))), some (.long (lI a)), none, some (.int (iI w)), some (.int (iI an)), some (.int (iI y)), some (.int (iI 0)), none, none, none]) dX9_putAll_1 rfl ?_
  exact n_pa_a E m S l a w an y hS hl hy ha hw han _ (Int.toNat_of_nonneg hn8.1).symm _ 0 S rfl (Nat.zero_le _) rfl
