def Dn (S D : PS) : Prop := WF S D ∧ ∀ d, (0 ≤ D 39 d ∧ D 39 d ≤ S 39 d) ∧ (0 ≤ D 40 d ∧ D 40 d ≤ S 40 d)
theorem Dn.rf {S : PS} (h : InvS kM S) : Dn S S := ⟨WF.rf, fun d => by
  have q1 : 0 ≤ S 39 d ∧ S 39 d ≤ 99990000 := h 39 d rfl
  have q2 : 0 ≤ S 40 d ∧ S 40 d ≤ 4000000000 := h 40 d rfl
  omega⟩
theorem Dn.tr {S D F : PS} (h : Dn S D) (g : Dn D F) : Dn S F := ⟨h.1.tr g.1, fun d => by
  have h1 := h.2 d
  have h2 := g.2 d
  omega⟩
theorem Dn.up {S D : PS} {k x : Nat} {v : Int} (h : Dn S D) (hk : 41 ≤ k ∧ k ≤ 49) : Dn S (upT D k x v) := ⟨h.1.up (by omega), fun d => by
  rw [upT_k (by omega), upT_k (by omega)]; exact h.2 d⟩
theorem Dn.over {S D : PS} {v : Int} (h : Dn S D) : Dn S (upT D 29 15 v) := ⟨h.1.over, fun d => by
  rw [upT_k (by decide), upT_k (by decide)]; exact h.2 d⟩
theorem Dn.set {S D : PS} {k : Nat} {g : Nat → Int} (h : Dn S D) (hk : 41 ≤ k ∧ k ≤ 49) : Dn S (setT D k g) := ⟨h.1.set (by omega), fun d => by
  rw [setT_d (by omega), setT_d (by omega)]; exact h.2 d⟩
theorem Dn.cm {S D : PS} {t : Nat} (h : Dn S D) (g : CM S t) : CM D t := fun d hd => by
  have h1 := h.2 d
  have h2 := g d hd
  omega
theorem Dn.z40 {S D : PS} {y : Int} (h : Dn S D) (g : Z40 S y) : Z40 D y := fun d hd hy => by
  have h1 := h.2 d
  rw [h.1.2 0 (by decide)] at hd
  rw [h.1.1 31 (by decide) (by decide)] at hy
  have h2 := g d hd hy
  omega
theorem ntS_dn {S : PS} {l d : Nat} {a y : Int} (hS : InvS kM S) (ha : 0 ≤ a) : Dn S (ntS S l d a y) := ⟨ntS_wf, fun x => by
  have q1 : 0 ≤ S 39 x ∧ S 39 x ≤ 99990000 := hS 39 x rfl
  have q2 : 0 ≤ S 40 x ∧ S 40 x ≤ 4000000000 := hS 40 x rfl
  by_cases e : x = d
  · subst e
    obtain ⟨h1, h2, -⟩ := nts_bd (l := l) (d := x) hS ha
    rw [ntS_sr.1, ntS_sr.2]
    omega
  · rw [ntS_x e, ntS_x e]; omega⟩
def apL (S : PS) (fr : Nat) : Nat → Int
  | 0 => 0
  | k + 1 => apL S fr k + (S 39 (S 47 (fr + k)).toNat + S 40 (S 47 (fr + k)).toNat)
def ppV (S : PS) (mu al : Int) (x : Nat) : Int := if al = 0 then 0 else mu * (S 39 (S 47 x).toNat + S 40 (S 47 x).toNat) / al
def ppL (S : PS) (fr : Nat) (mu al : Int) : Nat → PS
  | 0 => S
  | k + 1 => upT (ppL S fr mu al k) 48 (fr + k) (ppV S mu al (fr + k))
def pp1 (l : Nat) (y : Int) : Nat → Nat → PS → Int → PS × Int
  | 0, _, S, r => (S, r)
  | f + 1, k, S, r => pp1 l y f (k + 1) (ntS S l (S 47 k).toNat (S 48 k) y) (r - ntR S l (S 47 k).toNat (S 48 k))
def pp2 (l : Nat) (y : Int) : Nat → Nat → PS → Int → PS
  | 0, _, S, _ => S
  | f + 1, k, S, r => if 0 < r then pp2 l y f (k + 1) (ntS S l (S 47 k).toNat r y) (r - ntR S l (S 47 k).toNat r) else S
def ppT (l : Nat) (y : Int) (n fr : Nat) (A : PS) (mu : Int) : PS := pp2 l y n fr (pp1 l y n fr A mu).1 (pp1 l y n fr A mu).2
def ppO (S : PS) (al : Int) : Int := min (S 29 15) al
def ppA (S : PS) (fr n : Nat) (al : Int) : PS := ppL (upT S 29 15 (S 29 15 - ppO S al)) fr (ppO S al) al n
def ppS (S : PS) (l fr en : Nat) (y : Int) : PS := ppT l y (en - fr) fr (ppA S fr (en - fr) (apL S fr (en - fr))) (ppO S (apL S fr (en - fr)))
theorem apL_bd {S : PS} {fr : Nat} (hS : InvS kM S) : ∀ n : Nat, 0 ≤ apL S fr n ∧ apL S fr n ≤ 4099990000 * n
  | 0 => by unfold apL; omega
  | n + 1 => by
    have h1 := apL_bd (fr := fr) hS n
    have q1 : 0 ≤ S 39 (S 47 (fr + n)).toNat ∧ S 39 (S 47 (fr + n)).toNat ≤ 99990000 := hS 39 _ rfl
    have q2 : 0 ≤ S 40 (S 47 (fr + n)).toNat ∧ S 40 (S 47 (fr + n)).toNat ≤ 4000000000 := hS 40 _ rfl
    unfold apL
    omega
theorem ppV_bd {S : PS} {mu al : Int} {x : Nat} (hS : InvS kM S) (h1 : 0 ≤ mu ∧ mu ≤ 99990000) (h2 : 0 ≤ al) : 0 ≤ ppV S mu al x ∧ ppV S mu al x ≤ 900000000000000000 := by
  unfold ppV
  split
  · omega
  · have q1 : 0 ≤ S 39 (S 47 x).toNat ∧ S 39 (S 47 x).toNat ≤ 99990000 := hS 39 _ rfl
    have q2 : 0 ≤ S 40 (S 47 x).toNat ∧ S 40 (S 47 x).toNat ≤ 4000000000 := hS 40 _ rfl
    have h3 := mul_bd h1.1 h1.2 (show 0 ≤ S 39 (S 47 x).toNat + S 40 (S 47 x).toNat by omega) (show S 39 (S 47 x).toNat + S 40 (S 47 x).toNat ≤ 4099990000 by omega)
    have h4 := div_bd h3.1 (show 0 < al by omega)
    omega
theorem ppL_k {S : PS} {fr : Nat} {mu al : Int} {k : Nat} (h : k ≠ 48) : ∀ n, ppL S fr mu al n k = S k
  | 0 => rfl
  | n + 1 => by
    funext x
    show upT (ppL S fr mu al n) 48 _ _ k x = _
    rw [upT_k h, ppL_k h n]
theorem ppL_48 {S : PS} {fr : Nat} {mu al : Int} : ∀ n x, fr ≤ x → x < fr + n → ppL S fr mu al n 48 x = ppV S mu al x
  | 0, x, _, _ => by omega
  | n + 1, x, h1, h2 => by
    show upT (ppL S fr mu al n) 48 (fr + n) _ 48 x = _
    by_cases e : x = fr + n
    · subst e; rw [upT_self]
    · rw [upT_x e, ppL_48 n x h1 (by omega)]
theorem ppL_ok {S : PS} {fr : Nat} {mu al : Int} (hS : InvS kM S) : ∀ n, InvS kM (ppL S fr mu al n) ∧ Dn S (ppL S fr mu al n)
  | 0 => ⟨hS, Dn.rf hS⟩
  | n + 1 => ⟨(ppL_ok hS n).1.up (by show True; trivial), (ppL_ok hS n).2.up (by decide)⟩
theorem pp2_ok {l : Nat} {y : Int} (hy : 0 ≤ y ∧ y ≤ 299) : ∀ f k D r, InvS kM D → InvS kM (pp2 l y f k D r) ∧ Dn D (pp2 l y f k D r)
  | 0, k, D, r, h => ⟨h, Dn.rf h⟩
  | f + 1, k, D, r, h => by
    unfold pp2
    split
    · have i1 := pp2_ok (l := l) hy f (k + 1) _ (r - ntR D l (D 47 k).toNat r) (ntS_inv (l := l) (d := (D 47 k).toNat) (a := r) h (by omega) hy)
      exact ⟨i1.1, (ntS_dn h (by omega)).tr i1.2⟩
    · exact ⟨h, Dn.rf h⟩
theorem pp1_ok {l : Nat} {y : Int} (hy : 0 ≤ y ∧ y ≤ 299) : ∀ f k D r, InvS kM D → (∀ x, k ≤ x → x < k + f → 0 ≤ D 48 x) → InvS kM (pp1 l y f k D r).1 ∧ Dn D (pp1 l y f k D r).1
  | 0, k, D, r, h, _ => ⟨h, Dn.rf h⟩
  | f + 1, k, D, r, h, h48 => by
    have h0 := h48 k (Nat.le_refl _) (by omega)
    have i1 := pp1_ok (l := l) hy f (k + 1) _ (r - ntR D l (D 47 k).toNat (D 48 k)) (ntS_inv (l := l) (d := (D 47 k).toNat) (a := D 48 k) h h0 hy) (fun x h1 h2 => by rw [ntS_k (by decide)]; exact h48 x (by omega) (by omega))
    exact ⟨i1.1, (ntS_dn h h0).tr i1.2⟩
theorem ppA_ok {S : PS} {fr n : Nat} {al : Int} (hS : InvS kM S) : InvS kM (ppA S fr n al) ∧ Dn S (ppA S fr n al) := by
  have h1 : InvS kM (upT S 29 15 (S 29 15 - ppO S al)) := hS.up (by show True; trivial)
  have h2 := ppL_ok (fr := fr) (mu := ppO S al) (al := al) h1 n
  exact ⟨h2.1, ((Dn.rf hS).over).tr h2.2⟩
theorem ppS_ok {S : PS} {l fr en : Nat} {y : Int} (hS : InvS kM S) (hy : 0 ≤ y ∧ y ≤ 299) (ho : 0 ≤ S 29 15 ∧ S 29 15 ≤ 99990000) : InvS kM (ppS S l fr en y) ∧ Dn S (ppS S l fr en y) := by
  have h0 := apL_bd (fr := fr) hS (en - fr)
  have h1 := ppA_ok (fr := fr) (n := en - fr) (al := apL S fr (en - fr)) hS
  have h2 : InvS kM (upT S 29 15 (S 29 15 - ppO S (apL S fr (en - fr)))) := hS.up (by show True; trivial)
  have h3 := pp1_ok (l := l) hy (en - fr) fr _ (ppO S (apL S fr (en - fr))) h1.1 (fun x e1 e2 => by
    unfold ppA
    rw [ppL_48 _ x e1 e2]
    exact (ppV_bd h2 (by unfold ppO; omega) h0.1).1)
  have h4 := pp2_ok (l := l) hy (en - fr) fr _ (pp1 l y (en - fr) fr (ppA S fr (en - fr) (apL S fr (en - fr))) (ppO S (apL S fr (en - fr)))).2 h3.1
  exact ⟨h4.1, (h1.2.tr h3.2).tr h4.2⟩
theorem pp2_15 {l : Nat} {y : Int} : ∀ f k D r, pp2 l y f k D r 29 = D 29
  | 0, k, D, r => rfl
  | f + 1, k, D, r => by
    unfold pp2
    split
    · rw [pp2_15 f, ntS_k (by decide)]
    · rfl
theorem pp1_15 {l : Nat} {y : Int} : ∀ f k D r, (pp1 l y f k D r).1 29 = D 29
  | 0, k, D, r => rfl
  | f + 1, k, D, r => by
    show (pp1 l y f (k + 1) _ _).1 29 = _
    rw [pp1_15 f, ntS_k (by decide)]
theorem ppS_15 {S : PS} {l fr en : Nat} {y : Int} : ppS S l fr en y 29 15 = S 29 15 - ppO S (apL S fr (en - fr)) := by
  unfold ppS ppT
  rw [pp2_15, pp1_15]
  unfold ppA
  rw [ppL_k (by decide), upT_self]
theorem ppS_ov {S : PS} {l fr en : Nat} {y : Int} (hS : InvS kM S) (ho : 0 ≤ S 29 15 ∧ S 29 15 ≤ 99990000) : 0 ≤ ppS S l fr en y 29 15 ∧ ppS S l fr en y 29 15 ≤ 99990000 := by
  have h0 := apL_bd (fr := fr) hS (en - fr)
  rw [ppS_15]
  unfold ppO
  omega
set_option maxHeartbeats 4000000 in
set_option maxRecDepth 100000 in
theorem n_pp_d (E : Ev) (m : Mem) (l fr en : Nat) (y : Int) (hl : l < 2) (hy : 0 ≤ y ∧ y ≤ 299) (hfe : fr ≤ en) (he8 : en ≤ 8) : ∀ (kk : Nat) (k : Nat) (D : PS) (r : Int), en - k = kk → k ≤ en → InvS kM D → (-40999900000 ≤ r ∧ r ≤ 99990000) → T E 3 mX9_putParts 164 [some (rf E 29 0 0), some (.int (iI (l : Int))), some (.int (iI (fr : Int))), some (.int (iI (en : Int))), some (.int (iI y)), none, none, none, none, some (.long (lI r)), none, some (.int (iI (k : Int)))] [] (hp E (wrM m D)) (fun r' h' => r' = none ∧ h' = hp E (wrM m (pp2 l y (en - k) k D r))) := by
  intro kk
  induction kk using Nat.strongRecOn with
  | ind kk ih =>
    intro k D r hk hke hD hr
    refine T.iload dX9_putParts_164 rfl ?_
    refine T.iload_n dX9_putParts_166 rfl ?_
    refine T.icmp_ge 204 dX9_putParts_167 (by unfold rg; omega) (by unfold rg; omega) (fun c1 => ?_) (fun c1 => ?_)
    · exact T.vret dX9_putParts_204 ⟨rfl, by rw [show pp2 l y (en - k) k D r = D from by cases hf : en - k with
            | zero => rfl
            | succ f => unfold pp2; exact if_neg (by omega)]⟩
    · refine T.lload dX9_putParts_170 rfl ?_
      refine T.lconst0 dX9_putParts_172 ?_
      refine T.lcmp_le 204 dX9_putParts_173 dX9_putParts_174 (by unfold rl; omega) (by unfold rl; omega) (fun c2 => ?_) (fun c2 => ?_)
      · exact T.vret dX9_putParts_204 ⟨rfl, by rw [show pp2 l y (en - k) k D r = D from by cases hf : en - k with
              | zero => rfl
              | succ f => unfold pp2; exact if_neg (by omega)]⟩
      · refine T.lload dX9_putParts_177 rfl ?_
        refine T.aload_n dX9_putParts_179 rfl ?_
        refine T.iload_n dX9_putParts_180 rfl ?_
        refine T.aload_n dX9_putParts_181 rfl ?_
        refine T.mget (v := rf E 47 0 0) dX9_putParts_182 fo_X9_51 ok29 rfl rfl ?_
        refine T.iload dX9_putParts_185 rfl ?_
        refine T.aI (z := D 47 k) (x := k) dX9_putParts_187 ok47 (fun _ => rfl) rfl (by omega) (wrM_c rfl) ?_
        have q3 : 0 ≤ D 47 k ∧ D 47 k ≤ 7 := hD 47 k rfl
        refine T.lload dX9_putParts_188 rfl ?_
        refine T.iload dX9_putParts_190 rfl ?_
        refine T.cV1 (As := [.int (iI (l : Int)), .int (iI (D 47 k)), .long (lI r), .int (iI y)]) (st := [.long (lI r)]) dX9_putParts_192 lk_X9_153 (by have h0 := n_putTo E m D l (D 47 k).toNat (r) y hD hl (by omega) (by omega); rw [show (((D 47 k).toNat : Nat) : Int) = D 47 k from by omega] at h0; exact h0) ok29 rfl rfl (by decide) rfl rfl (Nat.le_of_ble_eq_true rfl) ?_
        have z4 := nts_bd (l := l) (d := (D 47 k).toNat) (a := r) hD (by omega)
        have b5 : 0 ≤ D 39 (D 47 k).toNat ∧ D 39 (D 47 k).toNat ≤ 99990000 := hD 39 (D 47 k).toNat rfl
        have b6 : 0 ≤ D 40 (D 47 k).toNat ∧ D 40 (D 47 k).toNat ≤ 4000000000 := hD 40 (D 47 k).toNat rfl
        refine T.lsub dX9_putParts_195 ?_
        refine T.lstore (ls' := [some (rf E 29 0 0), some (.int (iI (l : Int))), some (.int (iI (fr : Int))), some (.int (iI (en : Int))), some (.int (iI y)), none, none, none, none, some (.long (lI (r - (ntR D l (D 47 k).toNat r)))), none, some (.int (iI (k : Int)))]) dX9_putParts_196 rfl ?_
        refine T.iinc (ls' := [some (rf E 29 0 0), some (.int (iI (l : Int))), some (.int (iI (fr : Int))), some (.int (iI (en : Int))), some (.int (iI y)), none, none, none, none, some (.long (lI (r - (ntR D l (D 47 k).toNat r)))), none, some (.int (iI ((k : Int) + 1)))]) dX9_putParts_198 rfl rfl ?_
        refine T.goto 164 dX9_putParts_201 ?_
        have hq : pp2 l y (en - k) k D r = pp2 l y (en - (k + 1)) (k + 1) ((ntS D l (D 47 k).toNat r y)) (r - ntR D l (D 47 k).toNat r) := by
          rw [show en - k = (en - (k + 1)) + 1 from by omega]
          conv => lhs; unfold pp2
          rw [if_pos (by omega)]
        rw [hq]
        exact ih (en - (k + 1)) (by omega) (k + 1) _ _ rfl (by omega) (ntS_inv hD (by omega) hy) (by omega)
set_option maxHeartbeats 4000000 in
set_option maxRecDepth 100000 in
theorem n_pp_c (E : Ev) (m : Mem) (l fr en : Nat) (y : Int) (hl : l < 2) (hy : 0 ≤ y ∧ y ≤ 299) (hfe : fr ≤ en) (he8 : en ≤ 8) : ∀ (kk : Nat) (k : Nat) (D : PS) (r : Int), en - k = kk → k ≤ en → InvS kM D → (∀ x, k ≤ x → x < en → 0 ≤ D 48 x ∧ D 48 x ≤ 900000000000000000) → (-(4099990000 * (k : Int)) ≤ r ∧ r ≤ 99990000) → T E 3 mX9_putParts 123 [some (rf E 29 0 0), some (.int (iI (l : Int))), some (.int (iI (fr : Int))), some (.int (iI (en : Int))), some (.int (iI y)), none, none, none, none, some (.long (lI r)), none, some (.int (iI (k : Int)))] [] (hp E (wrM m D)) (fun r' h' => r' = none ∧ h' = hp E (wrM m (pp2 l y (en - fr) fr (pp1 l y (en - k) k D r).1 (pp1 l y (en - k) k D r).2))) := by
  intro kk
  induction kk using Nat.strongRecOn with
  | ind kk ih =>
    intro k D r hk hke hD h48 hr
    refine T.iload dX9_putParts_123 rfl ?_
    refine T.iload_n dX9_putParts_125 rfl ?_
    refine T.icmp_ge 161 dX9_putParts_126 (by unfold rg; omega) (by unfold rg; omega) (fun c1 => ?_) (fun c1 => ?_)
    · refine T.iload_n dX9_putParts_161 rfl ?_
      refine T.istore (ls' := [some (rf E 29 0 0), some (.int (iI (l : Int))), some (.int (iI (fr : Int))), some (.int (iI (en : Int))), some (.int (iI y)), none, none, none, none, some (.long (lI r)), none, some (.int (iI (fr : Int)))]) dX9_putParts_162 rfl ?_
      obtain rfl : k = en := by omega
      rw [show pp1 l y (k - k) k D r = (D, r) from by rw [Nat.sub_self]; rfl]
      exact n_pp_d E m l fr k y hl hy hfe he8 _ fr D r rfl hfe hD (by omega)
    · have h48k := h48 k (Nat.le_refl _) (by omega)
      refine T.lload dX9_putParts_129 rfl ?_
      refine T.aload_n dX9_putParts_131 rfl ?_
      refine T.iload_n dX9_putParts_132 rfl ?_
      refine T.aload_n dX9_putParts_133 rfl ?_
      refine T.mget (v := rf E 47 0 0) dX9_putParts_134 fo_X9_51 ok29 rfl rfl ?_
      refine T.iload dX9_putParts_137 rfl ?_
      refine T.aI (z := D 47 k) (x := k) dX9_putParts_139 ok47 (fun _ => rfl) rfl (by omega) (wrM_c rfl) ?_
      have q2 : 0 ≤ D 47 k ∧ D 47 k ≤ 7 := hD 47 k rfl
      refine T.aload_n dX9_putParts_140 rfl ?_
      refine T.mget (v := rf E 48 0 0) dX9_putParts_141 fo_X9_54 ok29 rfl rfl ?_
      refine T.iload dX9_putParts_144 rfl ?_
      refine T.aL (z := D 48 k) (x := k) dX9_putParts_146 ok48 (fun _ => rfl) rfl (by omega) (wrM_c rfl) ?_
      refine T.iload dX9_putParts_147 rfl ?_
      refine T.cV1 (As := [.int (iI (l : Int)), .int (iI (D 47 k)), .long (lI (D 48 k)), .int (iI y)]) (st := [.long (lI r)]) dX9_putParts_149 lk_X9_153 (by have h0 := n_putTo E m D l (D 47 k).toNat (D 48 k) y hD hl (by omega) (by omega); rw [show (((D 47 k).toNat : Nat) : Int) = D 47 k from by omega] at h0; exact h0) ok29 rfl rfl (by decide) rfl rfl (Nat.le_of_ble_eq_true rfl) ?_
      have z3 := nts_bd (l := l) (d := (D 47 k).toNat) (a := D 48 k) hD (by omega)
      have b4 : 0 ≤ D 39 (D 47 k).toNat ∧ D 39 (D 47 k).toNat ≤ 99990000 := hD 39 (D 47 k).toNat rfl
      have b5 : 0 ≤ D 40 (D 47 k).toNat ∧ D 40 (D 47 k).toNat ≤ 4000000000 := hD 40 (D 47 k).toNat rfl
      refine T.lsub dX9_putParts_152 ?_
      refine T.lstore (ls' := [some (rf E 29 0 0), some (.int (iI (l : Int))), some (.int (iI (fr : Int))), some (.int (iI (en : Int))), some (.int (iI y)), none, none, none, none, some (.long (lI (r - (ntR D l (D 47 k).toNat (D 48 k))))), none, some (.int (iI (k : Int)))]) dX9_putParts_153 rfl ?_
      refine T.iinc (ls' := [some (rf E 29 0 0), some (.int (iI (l : Int))), some (.int (iI (fr : Int))), some (.int (iI (en : Int))), some (.int (iI y)), none, none, none, none, some (.long (lI (r - (ntR D l (D 47 k).toNat (D 48 k))))), none, some (.int (iI ((k : Int) + 1)))]) dX9_putParts_155 rfl rfl ?_
      refine T.goto 123 dX9_putParts_158 ?_
      have hq : pp1 l y (en - k) k D r = pp1 l y (en - (k + 1)) (k + 1) ((ntS D l (D 47 k).toNat (D 48 k) y)) (r - ntR D l (D 47 k).toNat (D 48 k)) := by
        rw [show en - k = (en - (k + 1)) + 1 from by omega]
        rfl
      rw [hq]
      exact ih (en - (k + 1)) (by omega) (k + 1) _ _ rfl (by omega) (ntS_inv hD (by omega) hy) (fun x h1 h2 => by rw [ntS_k (by decide)]; exact h48 x (by omega) h2) (by omega)
set_option maxHeartbeats 4000000 in
set_option maxRecDepth 100000 in
theorem n_pp_b (E : Ev) (m : Mem) (S : PS) (l fr en : Nat) (y al mu : Int) (hS : InvS kM S) (hl : l < 2) (hy : 0 ≤ y ∧ y ≤ 299) (hfe : fr ≤ en) (he8 : en ≤ 8) (hal : 0 ≤ al ∧ al ≤ 40000000000) (hmu : 0 ≤ mu ∧ mu ≤ 99990000) : ∀ (k : Nat) (i : Nat) (D : PS), en - fr - i = k → fr + i ≤ en → D = ppL S fr mu al i → T E 3 mX9_putParts 73 [some (rf E 29 0 0), some (.int (iI (l : Int))), some (.int (iI (fr : Int))), some (.int (iI (en : Int))), some (.int (iI y)), some (.long (lI al)), none, some (.long (lI mu)), none, some (.long (lI mu)), none, some (.int (iI ((fr + i : Nat) : Int)))] [] (hp E (wrM m D)) (fun r' h' => r' = none ∧ h' = hp E (wrM m (ppT l y (en - fr) fr (ppL S fr mu al (en - fr)) mu))) := by
  intro k
  induction k using Nat.strongRecOn with
  | ind k ih =>
    intro i D hk hie hD
    have e39 : D 39 = S 39 := by rw [hD, ppL_k (by decide)]
    have e40 : D 40 = S 40 := by rw [hD, ppL_k (by decide)]
    have e47 : D 47 = S 47 := by rw [hD, ppL_k (by decide)]
    have hDI : InvS kM D := by rw [hD]; exact (ppL_ok hS i).1
    refine T.iload dX9_putParts_73 rfl ?_
    refine T.iload_n dX9_putParts_75 rfl ?_
    refine T.icmp_ge 120 dX9_putParts_76 (by unfold rg; omega) (by unfold rg; omega) (fun c1 => ?_) (fun c1 => ?_)
    · refine T.iload_n dX9_putParts_120 rfl ?_
      refine T.istore (ls' := [some (rf E 29 0 0), some (.int (iI (l : Int))), some (.int (iI (fr : Int))), some (.int (iI (en : Int))), some (.int (iI y)), some (.long (lI al)), none, some (.long (lI mu)), none, some (.long (lI mu)), none, some (.int (iI (fr : Int)))]) dX9_putParts_121 rfl ?_
      refine T.fgt (ls' := [some (rf E 29 0 0), some (.int (iI (l : Int))), some (.int (iI (fr : Int))), some (.int (iI (en : Int))), some (.int (iI y)), none, none, none, none, some (.long (lI mu)), none, some (.int (iI (fr : Int)))]) (by simp [lsw]) ?_
      have hin : i = en - fr := by omega
      rw [show ppL S fr mu al (en - fr) = D from by rw [hD, hin]]
      exact n_pp_c E m l fr en y hl hy hfe he8 _ fr D mu rfl hfe hDI (fun x h1 h2 => by rw [hD, ppL_48 i x h1 (by omega)]; exact ppV_bd hS hmu (by omega)) (by omega)
    · refine T.aload_n dX9_putParts_79 rfl ?_
      refine T.mget (v := rf E 48 0 0) dX9_putParts_80 fo_X9_54 ok29 rfl rfl ?_
      refine T.iload dX9_putParts_83 rfl ?_
      refine T.lload dX9_putParts_85 rfl ?_
      refine T.lconst0 dX9_putParts_87 ?_
      refine T.lcmp_ne 96 dX9_putParts_88 dX9_putParts_89 (by unfold rl; omega) (by unfold rl; omega) (fun c2 => ?_) (fun c2 => ?_)
      · refine T.lload dX9_putParts_96 rfl ?_
        refine T.aload_n dX9_putParts_98 rfl ?_
        refine T.aload_n dX9_putParts_99 rfl ?_
        refine T.mget (v := rf E 47 0 0) dX9_putParts_100 fo_X9_51 ok29 rfl rfl ?_
        refine T.iload dX9_putParts_103 rfl ?_
        refine T.aI (z := D 47 (fr + i)) (x := (fr + i)) dX9_putParts_105 ok47 (fun _ => rfl) (by omega) (by omega) (wrM_c rfl) ?_
        have q3 : 0 ≤ D 47 (fr + i) ∧ D 47 (fr + i) ≤ 7 := hDI 47 (fr + i) rfl
        refine T.cV1 (As := [.int (iI (D 47 (fr + i)))]) (st := [.long (lI mu), .int (iI ((fr + i : Nat) : Int)), rf E 48 0 0]) dX9_putParts_106 lk_X9_137 (by have h0 := n_leftOf E m D (D 47 (fr + i)).toNat (by omega); rw [show (((D 47 (fr + i)).toNat : Nat) : Int) = D 47 (fr + i) from by omega, e39, e40] at h0; rw [show (D 47 (fr + i)).toNat = (S 47 (fr + i)).toNat from by rw [e47]] at h0; exact h0) ok29 rfl rfl (by decide) rfl rfl (Nat.le_of_ble_eq_true rfl) ?_
        have b1 : 0 ≤ S 39 (S 47 (fr + i)).toNat ∧ S 39 (S 47 (fr + i)).toNat ≤ 99990000 := hS 39 _ rfl
        have b2 : 0 ≤ S 40 (S 47 (fr + i)).toNat ∧ S 40 (S 47 (fr + i)).toNat ≤ 4000000000 := hS 40 _ rfl
        have b3 := mul_bd hmu.1 hmu.2 (show 0 ≤ S 39 (S 47 (fr + i)).toNat + S 40 (S 47 (fr + i)).toNat by omega) (show S 39 (S 47 (fr + i)).toNat + S 40 (S 47 (fr + i)).toNat ≤ 4099990000 by omega)
        refine T.lmul dX9_putParts_109 ?_
        refine T.lload dX9_putParts_110 rfl ?_
        refine T.ldiv dX9_putParts_112 (by unfold rl; omega) (by unfold rl; omega) (by omega) (by omega) ?_
        refine T.nlst (x := (fr + i)) dX9_putParts_113 rfl ok48 (fun _ => rfl) (by omega) (by omega) ?_
        refine T.iinc (ls' := [some (rf E 29 0 0), some (.int (iI (l : Int))), some (.int (iI (fr : Int))), some (.int (iI (en : Int))), some (.int (iI y)), some (.long (lI al)), none, some (.long (lI mu)), none, some (.long (lI mu)), none, some (.int (iI (((fr + i : Nat) : Int) + 1)))]) dX9_putParts_114 rfl rfl ?_
        refine T.goto 73 dX9_putParts_117 ?_
        refine ih (en - fr - (i + 1)) (by omega) (i + 1) _ (by omega) (by omega) ?_
        rw [hD]
        show _ = upT (ppL S fr mu al i) 48 (fr + i) (ppV S mu al (fr + i))
        rw [show ppV S mu al (fr + i) = (mu * (S 39 (S 47 (fr + i)).toNat + S 40 (S 47 (fr + i)).toNat)) / al from if_neg (by omega)]
      · refine T.lconst0 dX9_putParts_92 ?_
        refine T.goto 113 dX9_putParts_93 ?_
        refine T.nlst (x := (fr + i)) dX9_putParts_113 rfl ok48 (fun _ => rfl) (by omega) (by omega) ?_
        refine T.iinc (ls' := [some (rf E 29 0 0), some (.int (iI (l : Int))), some (.int (iI (fr : Int))), some (.int (iI (en : Int))), some (.int (iI y)), some (.long (lI al)), none, some (.long (lI mu)), none, some (.long (lI mu)), none, some (.int (iI (((fr + i : Nat) : Int) + 1)))]) dX9_putParts_114 rfl rfl ?_
        refine T.goto 73 dX9_putParts_117 ?_
        refine ih (en - fr - (i + 1)) (by omega) (i + 1) _ (by omega) (by omega) ?_
        rw [hD]
        show _ = upT (ppL S fr mu al i) 48 (fr + i) (ppV S mu al (fr + i))
        rw [show ppV S mu al (fr + i) = 0 from if_pos (by omega)]
set_option maxHeartbeats 4000000 in
set_option maxRecDepth 100000 in
theorem n_pp_a (E : Ev) (m : Mem) (S : PS) (l fr en : Nat) (y : Int) (hS : InvS kM S) (hl : l < 2) (hy : 0 ≤ y ∧ y ≤ 299) (hfe : fr ≤ en) (he8 : en ≤ 8) (ho : 0 ≤ S 29 15 ∧ S 29 15 ≤ 99990000) : ∀ (k : Nat) (i : Nat), en - fr - i = k → fr + i ≤ en → T E 3 mX9_putParts 6 [some (rf E 29 0 0), some (.int (iI (l : Int))), some (.int (iI (fr : Int))), some (.int (iI (en : Int))), some (.int (iI y)), some (.long (lI (apL S fr i))), none, some (.int (iI ((fr + i : Nat) : Int))), none, none, none, none] [] (hp E (wrM m S)) (fun r' h' => r' = none ∧ h' = hp E (wrM m (ppS S l fr en y))) := by
  intro k
  induction k using Nat.strongRecOn with
  | ind k ih =>
    intro i hk hie
    have hab := apL_bd (fr := fr) hS i
    refine T.iload dX9_putParts_6 rfl ?_
    refine T.iload_n dX9_putParts_8 rfl ?_
    refine T.icmp_ge 34 dX9_putParts_9 (by unfold rg; omega) (by unfold rg; omega) (fun c1 => ?_) (fun c1 => ?_)
    · refine T.aload_n dX9_putParts_34 rfl ?_
      refine T.gL (z := S 29 15) dX9_putParts_35 fo_X9_149 ok29 rfl rfl (wrM_c rfl) ?_
      refine T.lload dX9_putParts_38 rfl ?_
      refine T.lcmp_ge 51 dX9_putParts_40 dX9_putParts_41 (by unfold rl; omega) (by unfold rl; omega) (fun c2 => ?_) (fun c2 => ?_)
      · refine T.lload dX9_putParts_51 rfl ?_
        refine T.lstore (ls' := [some (rf E 29 0 0), some (.int (iI (l : Int))), some (.int (iI (fr : Int))), some (.int (iI (en : Int))), some (.int (iI y)), some (.long (lI (apL S fr i))), none, some (.long (lI (apL S fr i))), none, none, none, none]) dX9_putParts_53 rfl ?_
        refine T.aload_n dX9_putParts_55 rfl ?_
        refine T.dup dX9_putParts_56 ?_
        refine T.gL (z := S 29 15) dX9_putParts_57 fo_X9_149 ok29 rfl rfl (wrM_c rfl) ?_
        refine T.lload dX9_putParts_60 rfl ?_
        refine T.lsub dX9_putParts_62 ?_
        refine T.nputL dX9_putParts_63 fp_X9_149 rfl ok29 rfl rfl (Nat.le_of_ble_eq_true rfl) ?_
        refine T.lload dX9_putParts_66 rfl ?_
        refine T.lstore (ls' := [some (rf E 29 0 0), some (.int (iI (l : Int))), some (.int (iI (fr : Int))), some (.int (iI (en : Int))), some (.int (iI y)), some (.long (lI (apL S fr i))), none, some (.long (lI (apL S fr i))), none, some (.long (lI (apL S fr i))), none, none]) dX9_putParts_68 rfl ?_
        refine T.iload_n dX9_putParts_70 rfl ?_
        refine T.istore (ls' := [some (rf E 29 0 0), some (.int (iI (l : Int))), some (.int (iI (fr : Int))), some (.int (iI (en : Int))), some (.int (iI y)), some (.long (lI (apL S fr i))), none, some (.long (lI (apL S fr i))), none, some (.long (lI (apL S fr i))), none, some (.int (iI (fr : Int)))]) dX9_putParts_71 rfl ?_
        have hin : i = en - fr := by omega
        have hmu : ppO S (apL S fr (en - fr)) = apL S fr i := by unfold ppO; rw [← hin]; omega
        unfold ppS ppA
        rw [hmu, ← hin]
        have h0 := n_pp_b E m (upT S 29 15 (S 29 15 - (apL S fr i))) l fr en y (apL S fr i) (apL S fr i) (hS.up (by show True; trivial)) hl hy hfe he8 (by omega) (by omega) _ 0 _ rfl (by omega) rfl
        rw [← hin] at h0
        exact h0
      · refine T.aload_n dX9_putParts_44 rfl ?_
        refine T.gL (z := S 29 15) dX9_putParts_45 fo_X9_149 ok29 rfl rfl (wrM_c rfl) ?_
        refine T.goto 53 dX9_putParts_48 ?_
        refine T.lstore (ls' := [some (rf E 29 0 0), some (.int (iI (l : Int))), some (.int (iI (fr : Int))), some (.int (iI (en : Int))), some (.int (iI y)), some (.long (lI (apL S fr i))), none, some (.long (lI (S 29 15))), none, none, none, none]) dX9_putParts_53 rfl ?_
        refine T.aload_n dX9_putParts_55 rfl ?_
        refine T.dup dX9_putParts_56 ?_
        refine T.gL (z := S 29 15) dX9_putParts_57 fo_X9_149 ok29 rfl rfl (wrM_c rfl) ?_
        refine T.lload dX9_putParts_60 rfl ?_
        refine T.lsub dX9_putParts_62 ?_
        refine T.nputL dX9_putParts_63 fp_X9_149 rfl ok29 rfl rfl (Nat.le_of_ble_eq_true rfl) ?_
        refine T.lload dX9_putParts_66 rfl ?_
        refine T.lstore (ls' := [some (rf E 29 0 0), some (.int (iI (l : Int))), some (.int (iI (fr : Int))), some (.int (iI (en : Int))), some (.int (iI y)), some (.long (lI (apL S fr i))), none, some (.long (lI (S 29 15))), none, some (.long (lI (S 29 15))), none, none]) dX9_putParts_68 rfl ?_
        refine T.iload_n dX9_putParts_70 rfl ?_
        refine T.istore (ls' := [some (rf E 29 0 0), some (.int (iI (l : Int))), some (.int (iI (fr : Int))), some (.int (iI (en : Int))), some (.int (iI y)), some (.long (lI (apL S fr i))), none, some (.long (lI (S 29 15))), none, some (.long (lI (S 29 15))), none, some (.int (iI (fr : Int)))]) dX9_putParts_71 rfl ?_
        have hin : i = en - fr := by omega
        have hmu : ppO S (apL S fr (en - fr)) = S 29 15 := by unfold ppO; rw [← hin]; omega
        unfold ppS ppA
        rw [hmu, ← hin]
        have h0 := n_pp_b E m (upT S 29 15 (S 29 15 - (S 29 15))) l fr en y (apL S fr i) (S 29 15) (hS.up (by show True; trivial)) hl hy hfe he8 (by omega) (by omega) _ 0 _ rfl (by omega) rfl
        rw [← hin] at h0
        exact h0
    · refine T.lload dX9_putParts_12 rfl ?_
      refine T.aload_n dX9_putParts_14 rfl ?_
      refine T.aload_n dX9_putParts_15 rfl ?_
      refine T.mget (v := rf E 47 0 0) dX9_putParts_16 fo_X9_51 ok29 rfl rfl ?_
      refine T.iload dX9_putParts_19 rfl ?_
      refine T.aI (z := S 47 (fr + i)) (x := (fr + i)) dX9_putParts_21 ok47 (fun _ => rfl) (by omega) (by omega) (wrM_c rfl) ?_
      have q3 : 0 ≤ S 47 (fr + i) ∧ S 47 (fr + i) ≤ 7 := hS 47 (fr + i) rfl
      refine T.cV1 (As := [.int (iI (S 47 (fr + i)))]) (st := [.long (lI (apL S fr i))]) dX9_putParts_22 lk_X9_137 (by have h0 := n_leftOf E m S (S 47 (fr + i)).toNat (by omega); rw [show (((S 47 (fr + i)).toNat : Nat) : Int) = S 47 (fr + i) from by omega] at h0; exact h0) ok29 rfl rfl (by decide) rfl rfl (Nat.le_of_ble_eq_true rfl) ?_
      refine T.ladd dX9_putParts_25 ?_
      refine T.lstore (ls' := [some (rf E 29 0 0), some (.int (iI (l : Int))), some (.int (iI (fr : Int))), some (.int (iI (en : Int))), some (.int (iI y)), some (.long (lI ((apL S fr i) + (S 39 (S 47 (fr + i)).toNat + S 40 (S 47 (fr + i)).toNat)))), none, some (.int (iI ((fr + i : Nat) : Int))), none, none, none, none]) dX9_putParts_26 rfl ?_
      refine T.iinc (ls' := [some (rf E 29 0 0), some (.int (iI (l : Int))), some (.int (iI (fr : Int))), some (.int (iI (en : Int))), some (.int (iI y)), some (.long (lI ((apL S fr i) + (S 39 (S 47 (fr + i)).toNat + S 40 (S 47 (fr + i)).toNat)))), none, some (.int (iI (((fr + i : Nat) : Int) + 1))), none, none, none, none]) dX9_putParts_28 rfl rfl ?_
      refine T.goto 6 dX9_putParts_31 ?_
      exact ih (en - fr - (i + 1)) (by omega) (i + 1) (by omega) (by omega)
set_option maxHeartbeats 4000000 in
set_option maxRecDepth 100000 in
theorem n_putParts (E : Ev) (m : Mem) (S : PS) (l fr en : Nat) (y : Int) (hS : InvS kM S) (hl : l < 2) (hy : 0 ≤ y ∧ y ≤ 299) (hfe : fr ≤ en) (he8 : en ≤ 8) (ho : 0 ≤ S 29 15 ∧ S 29 15 ≤ 99990000) : CT E 3 mX9_putParts [rf E 29 0 0, .int (iI (l : Int)), .int (iI (fr : Int)), .int (iI (en : Int)), .int (iI y)] (hp E (wrM m S)) (none) (hp E (wrM m (ppS S l fr en y))) := by
  refine CT.go okX9_putParts (Nat.le_of_ble_eq_true rfl) ?_
  show T E 3 mX9_putParts 0 [some (rf E 29 0 0), some (.int (iI (l : Int))), some (.int (iI (fr : Int))), some (.int (iI (en : Int))), some (.int (iI y)), none, none, none, none, none, none, none] [] (hp E (wrM m S)) _
  refine T.lconst0 dX9_putParts_0 ?_
  refine T.lstore (ls' := [some (rf E 29 0 0), some (.int (iI (l : Int))), some (.int (iI (fr : Int))), some (.int (iI (en : Int))), some (.int (iI y)), some (.long (lI 0)), none, none, none, none, none, none]) dX9_putParts_1 rfl ?_
  refine T.iload_n dX9_putParts_3 rfl ?_
  refine T.istore (ls' := [some (rf E 29 0 0), some (.int (iI (l : Int))), some (.int (iI (fr : Int))), some (.int (iI (en : Int))), some (.int (iI y)), some (.long (lI 0)), none, some (.int (iI (fr : Int))), none, none, none, none]) dX9_putParts_4 rfl ?_
  exact n_pp_a E m S l fr en y hS hl hy hfe he8 ho _ 0 rfl hfe
