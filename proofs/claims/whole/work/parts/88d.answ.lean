theorem upT_upT {S : PS} {k x : Nat} {v w : Int} : upT (upT S k x v) k x w = upT S k x w := by
  funext k' x'
  unfold upT
  split <;> rfl
theorem upT_same {S : PS} {k x : Nat} : upT S k x (S k x) = S := by
  funext k' x'
  unfold upT
  split
  · rename_i h; rw [h.1, h.2]
  · rfl
theorem bk_up7 {M : Mem} {b p sl : Nat} {v : Int} (h : sl < 4) : bk (up M 7 b p sl v) b = upT (bk M b) (8 + sl) p v := by
  funext f d
  by_cases e : f = 8 + sl ∧ d = p
  · obtain ⟨rfl, rfl⟩ := e
    rw [upT_self]
    rcases (show sl = 0 ∨ sl = 1 ∨ sl = 2 ∨ sl = 3 by omega) with rfl | rfl | rfl | rfl <;> simp [bk, up]
  · have r : upT (bk M b) (8 + sl) p v f d = bk M b f d := by unfold upT; rw [if_neg e]
    rw [r]
    match f with
    | 0 => simp [bk, up]
    | 1 => simp [bk, up]
    | 2 => simp [bk, up]
    | 3 => simp [bk, up]
    | 4 => simp [bk, up]
    | 5 => simp [bk, up]
    | 6 => simp [bk, up]
    | 7 => simp [bk, up]
    | 8 => show up M 7 b p sl v 7 b d 0 = M 7 b d 0; unfold up; rw [if_neg (by omega)]
    | 9 => show up M 7 b p sl v 7 b d 1 = M 7 b d 1; unfold up; rw [if_neg (by omega)]
    | 10 => show up M 7 b p sl v 7 b d 2 = M 7 b d 2; unfold up; rw [if_neg (by omega)]
    | 11 => show up M 7 b p sl v 7 b d 3 = M 7 b d 3; unfold up; rw [if_neg (by omega)]
    | 12 => simp [bk, up]
    | 13 => simp [bk, up]
    | (f + 14) => rfl
theorem bkM_up7 {S : PS} {p sl : Nat} {v : Int} (h : sl < 4) : bkM (upT S 33 (4 * p + sl) v) = upT (bkM S) (8 + sl) p v := by
  funext f d
  by_cases e : f = 8 + sl ∧ d = p
  · obtain ⟨rfl, rfl⟩ := e
    rw [upT_self]
    rcases (show sl = 0 ∨ sl = 1 ∨ sl = 2 ∨ sl = 3 by omega) with rfl | rfl | rfl | rfl <;> simp [bkM, upT]
  · have r : upT (bkM S) (8 + sl) p v f d = bkM S f d := by unfold upT; rw [if_neg e]
    rw [r]
    match f with
    | 0 => simp [bkM, upT]
    | 1 => simp [bkM, upT]
    | 2 => simp [bkM, upT]
    | 3 => simp [bkM, upT]
    | 4 => simp [bkM, upT]
    | 5 => simp [bkM, upT]
    | 6 => simp [bkM, upT]
    | 7 => simp [bkM, upT]
    | 8 => show upT S 33 (4 * p + sl) v 33 (4 * d) = S 33 (4 * d); exact upT_x (by omega)
    | 9 => show upT S 33 (4 * p + sl) v 33 (4 * d + 1) = S 33 (4 * d + 1); exact upT_x (by omega)
    | 10 => show upT S 33 (4 * p + sl) v 33 (4 * d + 2) = S 33 (4 * d + 2); exact upT_x (by omega)
    | 11 => show upT S 33 (4 * p + sl) v 33 (4 * d + 3) = S 33 (4 * d + 3); exact upT_x (by omega)
    | 12 => simp [bkM, upT]
    | 13 => simp [bkM, upT]
    | (f + 14) => rfl
/-- one number of a payment is another, in class and model -/
theorem CR.pay {β L S : PS} {l p sl : Nat} {v : Int} (h : CR β L S l) (hsl : sl = 0 ∨ sl = 2 ∨ sl = 3) : CR (upT β (8 + sl) p v) L (upT S 33 (4 * p + sl) v) l := by
  obtain ⟨⟨h1, h2, h3, h4, h5, h6⟩, hL, h7, h8, h9⟩ := h
  have k12 : ∀ x, upT β (8 + sl) p v 12 x = β 12 x := fun x => upT_k (by omega)
  have k13 : ∀ x, upT β (8 + sl) p v 13 x = β 13 x := fun x => upT_k (by omega)
  unfold CR BkR
  rw [bkM_up7 (by omega), k12, k13]
  refine ⟨⟨?_, ?_, fun d hd f hf => ?_, fun q hq f hf hf2 => ?_, fun d hd => ?_, fun q hq => ?_⟩, ?_, fun d hd => ?_, h8, h9⟩
  · rw [upT_k (by omega)]; exact h1
  · rw [upT_k (by omega)]; exact h2
  · rw [upT_k (by omega), upT_k (by omega)]; exact h3 d hd f hf
  · have := h4 q hq f hf hf2
    unfold upT
    split
    · rfl
    · exact this
  · rw [upT_k (by omega)]; exact h5 d hd
  · rw [upT_k (by omega)]; exact h6 q hq
  · have e36 : ∀ x, upT S 33 (4 * p + sl) v 36 x = S 36 x := fun x => upT_k (by omega)
    have e37 : upT S 33 (4 * p + sl) v 37 l = S 37 l := upT_k (by omega)
    rw [e37]
    simp only [e36]
    exact hL
  · rw [upT_k (by omega), upT_k (by omega)]; exact h7 d hd
theorem stL_cg {β β' T : PS} (h : β' 0 = β 0) : ∀ n, stL β' T n = stL β T n
  | 0 => rfl
  | n + 1 => by
    unfold stL
    rw [stL_cg h n, h]
theorem stS_cg {β β' T : PS} (h : β' 0 = β 0) (h12 : β' 12 0 = β 12 0) : stS β' T = stS β T := by
  unfold stS
  rw [h12, stL_cg h]
theorem mOK.pay {S : PS} {p sl : Nat} {v : Int} (h : mOK S) (hsl : sl = 0 ∨ sl = 2 ∨ sl = 3) (hv : inR 7 sl v) : mOK (upT S 33 (4 * p + sl) v) := by
  have e31 : ∀ x, upT S 33 (4 * p + sl) v 31 x = S 31 x := fun x => upT_k (by omega)
  have e29 : ∀ x, upT S 33 (4 * p + sl) v 29 x = S 29 x := fun x => upT_k (by omega)
  unfold mOK
  simp only [e31, e29]
  refine ⟨h.1, fun q hq => ?_⟩
  obtain ⟨a1, a2, a3, a4⟩ := h.2 q hq
  by_cases e : q = p
  · subst e
    rcases hsl with rfl | rfl | rfl
    · have hv' : 0 ≤ v ∧ v ≤ 299 := hv
      rw [upT_x (show 4 * q + 1 ≠ 4 * q + 0 by omega), upT_x (show 4 * q + 2 ≠ 4 * q + 0 by omega), upT_x (show 4 * q + 3 ≠ 4 * q + 0 by omega), show 4 * q = 4 * q + 0 by omega, upT_self]
      exact ⟨hv', a2, a3, a4⟩
    · have hv' : -1 ≤ v ∧ v ≤ 7 := hv
      rw [upT_x (show 4 * q + 1 ≠ 4 * q + 2 by omega), upT_x (show 4 * q ≠ 4 * q + 2 by omega), upT_x (show 4 * q + 3 ≠ 4 * q + 2 by omega), upT_self]
      exact ⟨a1, a2, hv', a4⟩
    · have hv' : -1 ≤ v ∧ v ≤ 7 := hv
      rw [upT_x (show 4 * q + 1 ≠ 4 * q + 3 by omega), upT_x (show 4 * q ≠ 4 * q + 3 by omega), upT_x (show 4 * q + 2 ≠ 4 * q + 3 by omega), upT_self]
      exact ⟨a1, a2, a3, hv'⟩
  · rw [upT_x (by omega), upT_x (by omega), upT_x (by omega), upT_x (by omega)]
    exact ⟨a1, a2, a3, a4⟩
theorem inR_33 {sl x : Nat} {v : Int} (hsl : sl = 0 ∨ sl = 2 ∨ sl = 3) (hv : inR 7 sl v) : inR 33 x v := by
  rcases hsl with rfl | rfl | rfl
  · have hv' : 0 ≤ v ∧ v ≤ 299 := hv
    show -1 ≤ v ∧ v ≤ 9999
    omega
  · have hv' : -1 ≤ v ∧ v ≤ 7 := hv
    show -1 ≤ v ∧ v ≤ 9999
    omega
  · have hv' : -1 ≤ v ∧ v ≤ 7 := hv
    show -1 ≤ v ∧ v ≤ 9999
    omega
/-- what if: class and model -/
theorem ex_sim {C : Mem} {S : PS} {ln p sl : Nat} {v y : Int} (hI : Inv C) (hA : RlA C S) (hS : InvS kM S) (hO : mOK S) (hln : ln < 2) (hsl : sl = 0 ∨ sl = 2 ∨ sl = 3) (hv : inR 7 sl v) (hy : 0 ≤ y ∧ y ≤ 299) : exO C ln p sl v y = owX (upT S 33 (4 * p + sl) v) ln y := by
  have hC := (st_CR (j := 0) hI hA hln).pay (p := p) (v := v) hsl
  have eb : bk (exM C ln p sl v) (2 + 0) = upT (bk (stM C 0 0 ln) (2 + 0)) (8 + sl) p v := by
    unfold exM
    exact bk_up7 (by omega)
  have el : lw (exM C ln p sl v) (16 + 0) = lw (stM C 0 0 ln) (16 + 0) := by
    unfold exM
    exact lw_congr (up_kj (by omega)) (up_kj (by omega))
  have hI3 : Inv (exM C ln p sl v) := exM_inv hI hv
  have hI2 : Inv (stM C 0 0 ln) := hI.stM
  rw [← eb] at hC
  have z1 : PyR (bk (exM C ln p sl v) (2 + 0)) := fun q _ => ⟨hI3 7 (2 + 0) q 0, hI3 7 (2 + 0) q 2, hI3 7 (2 + 0) q 3⟩
  have z2 : bk (exM C ln p sl v) (2 + 0) 13 0 ≤ 12 := by
    have : 0 ≤ exM C ln p sl v 1 (2 + 0) 0 3 ∧ exM C ln p sl v 1 (2 + 0) 0 3 ≤ 12 := hI3 1 (2 + 0) 0 3
    exact this.2
  have z5 : ∀ d, 0 ≤ bk (exM C ln p sl v) (2 + 0) 1 d := fun d => by
    have : 0 ≤ exM C ln p sl v 5 (2 + 0) d 1 ∧ exM C ln p sl v 5 (2 + 0) d 1 ≤ 299 := hI3 5 (2 + 0) d 1
    exact this.1
  have hSX : InvS kM (upT S 33 (4 * p + sl) v) := hS.up (inR_33 hsl hv)
  have g := gb_sim hy hC z1 z2 hSX (hO.pay hsl hv) (hI2.S kC 0) (fun d => hI3 5 (2 + 0) d 0) z5
  have es : stS (bk (exM C ln p sl v) (2 + 0)) (fun k => stM C 0 0 ln k 0 0) = stS (bk (stM C 0 0 ln) (2 + 0)) (fun k => stM C 0 0 ln k 0 0) := by
    rw [eb]
    exact stS_cg (upT_kk (by omega)) (upT_k (by omega))
  rw [es, ← el] at g
  have hn : bk (exM C ln p sl v) (2 + 0) 12 0 = upT S 33 (4 * p + sl) v 29 0 := hC.1.1
  have hn2 : exM C ln p sl v 1 (2 + 0) 0 1 = upT S 33 (4 * p + sl) v 29 0 := hn
  have b0 : 0 ≤ upT S 33 (4 * p + sl) v 29 0 ∧ upT S 33 (4 * p + sl) v 29 0 ≤ 8 := hSX 29 0 rfl
  unfold exO owX
  rw [hn2]
  exact owed_eq g _ (by rw [hn]; omega)
/-- the model's state while it tries numbers of a payment -/
def TJ (m : Mem) (S : PS) (p sl : Nat) (C : Mem) (D : PS) : Prop := Inv C ∧ Core m C ∧ InvS kM D ∧ WG S (upT D 33 (4 * p + sl) (S 33 (4 * p + sl)))
theorem TJ.val {m : Mem} {S : PS} {ln p sl : Nat} {C : Mem} {D : PS} {v y : Int} (h : TJ m S p sl C D) (hA : RlA m S) (hO : mOK S) (hS : InvS kM S) (hln : ln < 2) (hsl : sl = 0 ∨ sl = 2 ∨ sl = 3) (hv : inR 7 sl v) (hy : 0 ≤ y ∧ y ≤ 299) : exO C ln p sl v y = owX (upT D 33 (4 * p + sl) v) ln y := by
  obtain ⟨h1, h2, h3, h4⟩ := h
  have hS' : InvS kM (upT D 33 (4 * p + sl) (S 33 (4 * p + sl))) := h3.up (hS 33 _ rfl)
  have := ex_sim (ln := ln) (p := p) (sl := sl) (v := v) h1 (hA.c h2 h4) hS' (hO.wg h4) hln hsl hv hy
  rw [upT_upT] at this
  exact this
theorem TJ.nxt {m : Mem} {S : PS} {ln p sl : Nat} {C : Mem} {D : PS} {v y : Int} (h : TJ m S p sl C D) (hO : mOK S) (hsl : sl = 0 ∨ sl = 2 ∨ sl = 3) (hv : inR 7 sl v) (hy : 0 ≤ y ∧ y ≤ 299) : TJ m S p sl (exD C ln p sl v y) (mdS (upT D 33 (4 * p + sl) v) ln (y + 1).toNat) := by
  obtain ⟨h1, h2, h3, h4⟩ := h
  have hX : InvS kM (upT D 33 (4 * p + sl) v) := h3.up (inR_33 hsl hv)
  have hOX : mOK (upT D 33 (4 * p + sl) v) := by
    have := (hO.wg h4).pay (p := p) (v := v) hsl hv
    rw [upT_upT] at this
    exact this
  have o := md_ok (l := ln) hX hOX (y + 1).toNat (by omega)
  refine ⟨exD_inv h1 hv hy.2, h2.tr exD_core, o.1, ?_⟩
  have w := o.2.2.2.wg
  refine ⟨fun k k1 k2 k3 => ?_, fun x hx => ?_⟩
  · have a1 := h4.1 k k1 k2 k3
    have a2 := w.1 k k1 k2 k3
    by_cases e : k = 33
    · subst e
      funext x
      have a1' := congrFun a1 x
      have a2' := congrFun a2 x
      by_cases e2 : x = 4 * p + sl
      · subst e2; rw [upT_self]
      · rw [upT_x e2] at a1' a2' ⊢
        rw [a2', a1']
    · rw [upT_kk e] at a1 a2 ⊢
      rw [a2, a1]
  · have a1 := h4.2 x hx
    have a2 := w.2 x hx
    rw [upT_k (by omega)] at a1 a2 ⊢
    rw [a2, a1]
theorem an_eq {m : Mem} {S : PS} {l p : Nat} {y : Int} (hA : RlA m S) (hO : mOK S) (hS : InvS kM S) (hl : l < 2) (hy : 0 ≤ y ∧ y ≤ 299) : ∀ (f : Nat) (b : Int) (C : Mem) (D : PS) (mo fd : Int), TJ m S p 3 C D → -1 ≤ b → b + f ≤ 8 → (anL l p y f b C mo fd).2 = (anN l p y f b D mo fd).2 ∧ TJ m S p 3 (anL l p y f b C mo fd).1 (anN l p y f b D mo fd).1
  | 0, b, C, D, mo, fd, h, _, _ => ⟨rfl, h⟩
  | f + 1, b, C, D, mo, fd, h, h1, h2 => by
    have hv : inR 7 3 b := (show -1 ≤ b ∧ b ≤ 7 by omega)
    have e := h.val (v := b) hA hO hS hl (by omega) hv hy
    have n := h.nxt (ln := l) hO (by omega) hv hy
    unfold anL anN
    rw [e]
    by_cases c : mo < owX (upT D 33 (4 * p + 3) b) l y
    · rw [if_pos c, if_pos c]
      exact an_eq hA hO hS hl hy f (b + 1) _ _ _ _ n (by omega) (by omega)
    · rw [if_neg c, if_neg c]
      exact an_eq hA hO hS hl hy f (b + 1) _ _ _ _ n (by omega) (by omega)
theorem TJ.beg {m : Mem} {S : PS} {p sl : Nat} (hI : Inv m) (hS : InvS kM S) : TJ m S p sl m S := ⟨hI, Core.rf, hS, by rw [upT_same]; exact WG.rf⟩
theorem s_answer : Sim_answer := by
  intro l p y hl hp' hy
  refine simQ fun m S hI hA hS hO => ?_
  have e0 : m 1 0 0 1 = S 29 0 := hA.1.1
  have e1 : m 1 0 0 3 = S 29 2 := hA.1.2.1
  have b0 : 0 ≤ S 29 0 ∧ S 29 0 ≤ 8 := hS 29 0 rfl
  unfold answerR answerM nanswerR nanswerS
  rw [e0, e1]
  by_cases c1 : ¬ ((0 ≤ l ∧ l ≤ 1) ∧ (0 ≤ p ∧ p ≤ S 29 2 - 1) ∧ (0 ≤ y ∧ y ≤ 299))
  · simp only [if_pos c1]; exact ⟨hI, Core.rf, trivial, hS, WG.rf⟩
  simp only [if_neg c1]
  obtain ⟨P, rfl⟩ : ∃ P : Nat, p = P := ⟨p.toNat, by omega⟩
  rw [Int.toNat_natCast]
  obtain ⟨g1, g2, g3, g4, g5⟩ := an_eq (p := P) hA hO hS (show l.toNat < 2 by omega) (show 0 ≤ y ∧ y ≤ 299 by omega) (S 29 0 + 1).toNat (-1) m S (-1) (-1) (TJ.beg hI hS) (by omega) (by omega)
  rw [show (4 * (P : Int) + 3).toNat = 4 * P + 3 by omega]
  exact ⟨g2, g3, g1, g4.up (hS 33 _ rfl), g5⟩
