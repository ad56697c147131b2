-- books alike but for the days of payments
theorem keyV_8 {β β' : PS} (h : ∀ f, f ≠ 8 → β' f = β f) {day : Int} {left : Nat → Int} {c : Int} {a : Nat} : keyV β' day left c a = keyV β day left c a := by
  unfold keyV
  rw [h 2 (by omega), h 3 (by omega), h 5 (by omega), h 6 (by omega), h 1 (by omega)]
theorem cmpN_8 {β β' : PS} (h : ∀ f, f ≠ 8 → β' f = β f) {day : Int} {left lt : Nat → Int} {a b : Nat} : ∀ n, cmpN β' day left lt a b n = cmpN β day left lt a b n
  | 0 => rfl
  | n + 1 => by
    unfold cmpN
    rw [cmpN_8 h n, keyV_8 h, keyV_8 h]
theorem op_8 {β β' S : PS} (h : ∀ f, f ≠ 8 → β' f = β f) {d : Int} : opS β' S d ↔ opS β S d := by
  unfold opS
  rw [h 12 (by omega), h 1 (by omega)]
theorem leftS_8 {β β' S : PS} (h : ∀ f, f ≠ 8 → β' f = β f) {d : Nat} : leftS β' S d = leftS β S d := by
  unfold leftS
  rw [h 1 (by omega)]
theorem owedL_8 {β β' S : PS} (h : ∀ f, f ≠ 8 → β' f = β f) : ∀ n, owedL β' S n = owedL β S n
  | 0 => rfl
  | n + 1 => by
    unfold owedL
    rw [owedL_8 h n, leftS_8 h]
theorem runOnS_8 {β β' S : PS} (h : ∀ f, f ≠ 8 → β' f = β f) {d : Nat} {days : Int} : runOnS β' S d days = runOnS β S d days := by
  unfold runOnS
  rw [h 3 (by omega), h 4 (by omega)]
theorem runToL_8 {β β' S : PS} (h : ∀ f, f ≠ 8 → β' f = β f) {t : Int} : ∀ n, runToL β' S t n = runToL β S t n
  | 0 => rfl
  | n + 1 => by
    unfold runToL
    rw [runToL_8 h n, runOnS_8 h, h 1 (by omega)]
theorem runToS_8 {β β' S : PS} (h : ∀ f, f ≠ 8 → β' f = β f) {t : Int} : runToS β' S t = runToS β S t := by
  unfold runToS
  rw [runToL_8 h, h 12 (by omega)]
theorem deadF_8 {β β' S : PS} (h : ∀ f, f ≠ 8 → β' f = β f) {d : Nat} : deadF β' S d = deadF β S d := by
  unfold deadF
  rw [op_8 h, h 7 (by omega), h 2 (by omega)]
theorem deadL_8 {β β' S : PS} (h : ∀ f, f ≠ 8 → β' f = β f) : ∀ n, deadL β' S n = deadL β S n
  | 0 => rfl
  | n + 1 => by
    unfold deadL
    rw [deadL_8 h n, deadF_8 h]
theorem dist0_8 {β β' S : PS} (h : ∀ f, f ≠ 8 → β' f = β f) : dist0 β' S = dist0 β S := by
  unfold dist0 deadS
  rw [deadL_8 h, h 12 (by omega)]
theorem cmpS_8 {β β' L S : PS} (h : ∀ f, f ≠ 8 → β' f = β f) : cmpS β' L S = cmpS β L S := by
  funext a b
  unfold cmpS
  exact cmpN_8 h _
theorem ordS_8 {β β' L S : PS} (h : ∀ f, f ≠ 8 → β' f = β f) : ordS β' L S = ordS β L S := by
  have e1 : okS1 β' L S = okS1 β L S := by
    funext d
    unfold okS1
    rw [decide_eq_decide.mpr (op_8 (S := S) (d := (d : Int)) h)]
  unfold ordS
  rw [e1, cmpS_8 h, h 12 (by omega)]
theorem grE_8 {β β' L S : PS} (h : ∀ f, f ≠ 8 → β' f = β f) {n fr : Nat} : ∀ f e, grE β' L S n fr f e = grE β L S n fr f e
  | 0, e => rfl
  | f + 1, e => by
    unfold grE
    rw [grE_8 h f, cmpS_8 h]
theorem dsL_8 {β β' L : PS} (h : ∀ f, f ≠ 8 → β' f = β f) {n : Nat} : ∀ f fr S o, dsL β' L n f fr S o = dsL β L n f fr S o
  | 0, fr, S, o => rfl
  | f + 1, fr, S, o => by
    unfold dsL
    rw [grE_8 h, dsL_8 h f]
theorem distS_8 {β β' L S : PS} (h : ∀ f, f ≠ 8 → β' f = β f) {a c : Int} : distS β' L S a c = distS β L S a c := by
  have e1 : dist1 β' L S a c = dist1 β L S a c := by unfold dist1; rw [dist0_8 h]
  have e2 : dist2 β' L S a c = dist2 β L S a c := by unfold dist2; rw [e1, ordS_8 h]
  have e3 : dist3 β' L S a c = dist3 β L S a c := by unfold dist3; rw [e1, e2, dsL_8 h]
  unfold distS
  rw [e3]
theorem chS_8 {β β' L S : PS} (h : ∀ f, f ≠ 8 → β' f = β f) {p : Nat} : chS β' L S p = chS β L S p := by
  unfold chS
  rw [h 10 (by omega), h 11 (by omega)]
  simp only [op_8 h]
theorem takeS_8 {β β' L S : PS} (h : ∀ f, f ≠ 8 → β' f = β f) {p : Nat} (hp' : β' 8 p = β 8 p) : takeS β' L S p = takeS β L S p := by
  have e : tak0 β' S p = tak0 β S p := by unfold tak0; rw [runToS_8 h, hp']
  unfold takeS
  rw [distS_8 h, e, chS_8 h, h 9 (by omega)]
theorem nextL_8 {β β' S : PS} {t : Int} {p : Nat} (h8 : ∀ q, q ≠ p → β' 8 q = β 8 q) (h1 : t < β 8 p) (h2 : t < β' 8 p) : ∀ n, nextL β' S t n = nextL β S t n
  | 0 => rfl
  | n + 1 => by
    have i := nextL_8 (S := S) h8 h1 h2 n
    have b : (nextL β S t n).2 ≤ t + 1 := by
      rcases nextL_spec (β := β) (T := S) (t := t) n with ⟨a1, a2, a3⟩ | ⟨r, b0, b1, b2, b3, b4, b5⟩ <;> omega
    unfold nextL
    rw [i]
    by_cases e : n = p
    · subst e
      rw [if_neg (show ¬ ((S 10 2 < β' 8 n ∨ (β' 8 n = S 10 2 ∧ S 10 3 < n)) ∧ β' 8 n < (nextL β S t n).2) by omega), if_neg (show ¬ ((S 10 2 < β 8 n ∨ (β 8 n = S 10 2 ∧ S 10 3 < n)) ∧ β 8 n < (nextL β S t n).2) by omega)]
    · rw [h8 n e]
theorem gbS_8 {β β' L : PS} {t : Int} {p : Nat} (h : ∀ f, f ≠ 8 → β' f = β f) (h8 : ∀ q, q ≠ p → β' 8 q = β 8 q) (h1 : t < β 8 p) (h2 : t < β' 8 p) {S : PS} : gbS β' L S t = gbS β L S t := by
  have nx : ∀ S, nextS β' S t = nextS β S t := fun S => by
    unfold nextS
    rw [nextL_8 h8 h1 h2, h 13 (by omega)]
  have g : ∀ f S, gbL β' L t f S = gbL β L t f S := by
    intro f
    induction f with
    | zero => intro S; rfl
    | succ f ih =>
      intro S
      unfold gbL
      rw [nx]
      by_cases c : 0 ≤ nextS β S t
      · rw [if_pos c, if_pos c]
        have e : takeS β' L S (nextS β S t).toNat = takeS β L S (nextS β S t).toNat := by
          refine takeS_8 h (h8 _ ?_)
          unfold nextS at c ⊢
          rcases nextL_spec (β := β) (T := S) (t := t) (β 13 0).toNat with ⟨a1, a2, a3⟩ | ⟨r, b0, b1, b2, b3, b4, b5⟩
          · omega
          · intro e
            rw [b1, Int.toNat_natCast] at e
            subst e
            omega
        rw [e, ih]
      · rw [if_neg c, if_neg c]
  unfold gbS
  rw [g, runToS_8 h]
/-- a payment that comes too late comes too late in the same way -/
theorem late_eq {C : Mem} {ln p : Nat} {v w y : Int} (hv : y < v) (hw : y < w) : exO C ln p 0 v y = exO C ln p 0 w y := by
  have eb : ∀ v, bk (exM C ln p 0 v) (2 + 0) = upT (bk (stM C 0 0 ln) (2 + 0)) 8 p v := fun v => by
    unfold exM
    exact bk_up7 (by omega)
  have el : ∀ v, lw (exM C ln p 0 v) (16 + 0) = lw (stM C 0 0 ln) (16 + 0) := fun v => by
    unfold exM
    exact lw_congr (up_kj (by omega)) (up_kj (by omega))
  have en' : ∀ v, exM C ln p 0 v 1 (2 + 0) 0 1 = stM C 0 0 ln 1 (2 + 0) 0 1 := fun v => by
    unfold exM
    rw [up_kj (by omega)]
  unfold exO exS
  rw [eb v, eb w, el v, el w, en' v, en' w]
  have h : ∀ f, f ≠ 8 → upT (bk (stM C 0 0 ln) (2 + 0)) 8 p v f = upT (bk (stM C 0 0 ln) (2 + 0)) 8 p w f := fun f hf => by rw [upT_kk hf, upT_kk hf]
  rw [gbS_8 h (fun q hq => by rw [upT_x hq, upT_x hq]) (by rw [upT_self]; exact hw) (by rw [upT_self]; exact hv), owedL_8 h]
def hvM (ov : Int → Int) (t : Int) : Nat → Int → Int → Int
  | 0, _, fd => fd
  | k + 1, v, fd => hvM ov t k (v + 1) (if fd < 0 ∨ (t = 0 ∧ ov v < fd) ∨ (t ≠ 0 ∧ fd < ov v) then ov v else fd)
theorem ov_eq {m C : Mem} {S : PS} {l p : Nat} {y v : Int} (hI : Inv m) (hA : RlA m S) (hO : mOK S) (hS : InvS kM S) (hl : l < 2) (hy : 0 ≤ y ∧ y ≤ 299) (h1 : Inv C) (h2 : Core m C) (hv : 0 ≤ v ∧ v ≤ 299) : exO C l p 0 v y = exO m l p 0 v y := by
  rw [ex_sim hI hA hS hO hl (Or.inl rfl) hv hy, ex_sim h1 (hA.c h2 WG.rf) hS hO hl (Or.inl rfl) hv hy]
theorem hgL_v {m : Mem} {S : PS} {l p : Nat} {y t fr : Int} (hI : Inv m) (hA : RlA m S) (hO : mOK S) (hS : InvS kM S) (hl : l < 2) (hy : 0 ≤ y ∧ y ≤ 299) : ∀ (k : Nat) (v : Int) (C : Mem) (fd : Int), Inv C → Core m C → fr < v → 0 ≤ v → v + k ≤ 300 → 0 ≤ fd → (hgL l p y t fr k v C fd).2 = hvM (fun v => exO m l p 0 v y) t k v fd ∧ Inv (hgL l p y t fr k v C fd).1 ∧ Core m (hgL l p y t fr k v C fd).1
  | 0, v, C, fd, h1, h2, _, _, _, _ => ⟨rfl, h1, h2⟩
  | k + 1, v, C, fd, h1, h2, h3, h4, h5, h6 => by
    have hv : 0 ≤ v ∧ v ≤ 299 := by omega
    have e := ov_eq (p := p) hI hA hO hS hl hy h1 h2 hv
    have b := exO_bd (ln := l) (p := p) (sl := 0) hI hv hy.2
    unfold hgL hvM
    rw [e, if_neg (show ¬ v = fr by omega)]
    obtain ⟨o, ho⟩ : ∃ o, o = exO m l p 0 v y := ⟨_, rfl⟩
    rw [← ho] at b ⊢
    have es : (if t = 0 then min fd o else max fd o) = (if fd < 0 ∨ (t = 0 ∧ o < fd) ∨ (t ≠ 0 ∧ fd < o) then o else fd) := by
      repeat' split
      all_goals omega
    rw [es]
    refine hgL_v hI hA hO hS hl hy k (v + 1) _ _ (exD_inv h1 hv hy.2) (h2.tr exD_core) (by omega) (by omega) (by omega) ?_
    split <;> omega
theorem hgN_v {m : Mem} {S : PS} {l p : Nat} {y t : Int} (hI : Inv m) (hA : RlA m S) (hO : mOK S) (hS : InvS kM S) (hl : l < 2) (hy : 0 ≤ y ∧ y ≤ 299) : ∀ (k : Nat) (v : Int) (C : Mem) (D : PS) (fd : Int), TJ m S p 0 C D → 0 ≤ v → v + k ≤ 300 → (hgN l p y t k v D fd).2 = hvM (fun v => exO m l p 0 v y) t k v fd ∧ ∃ C', TJ m S p 0 C' (hgN l p y t k v D fd).1
  | 0, v, C, D, fd, h, _, _ => ⟨rfl, C, h⟩
  | k + 1, v, C, D, fd, h, h4, h5 => by
    have hv : 0 ≤ v ∧ v ≤ 299 := by omega
    have e := ov_eq (p := p) hI hA hO hS hl hy h.1 h.2.1 hv
    have e2 : exO C l p 0 v y = owX (upT D 33 (4 * p) v) l y := h.val (v := v) hA hO hS hl (Or.inl rfl) hv hy
    have n : TJ m S p 0 (exD C l p 0 v y) (mdS (upT D 33 (4 * p) v) l (y + 1).toNat) := h.nxt (ln := l) hO (Or.inl rfl) hv hy
    unfold hgN hvM
    rw [← e2, e]
    exact hgN_v hI hA hO hS hl hy k (v + 1) _ _ _ n (by omega) (by omega)
theorem hv_cut {ov : Int → Int} {t : Int} {k2 : Nat} : ∀ (k1 : Nat) (v fd : Int), hvM ov t (k1 + k2) v fd = hvM ov t k2 (v + k1) (hvM ov t k1 v fd)
  | 0, v, fd => by
    rw [show (v + ((0 : Nat) : Int)) = v by omega, Nat.zero_add]
    rfl
  | k1 + 1, v, fd => by
    rw [show k1 + 1 + k2 = (k1 + k2) + 1 by omega]
    rw [hvM, hvM, hv_cut k1, show v + 1 + (k1 : Int) = v + ((k1 + 1 : Nat) : Int) by omega]
theorem hv_last {ov : Int → Int} {t : Int} : ∀ (k : Nat) (v fd : Int), (∀ w, v ≤ w → w ≤ v + k → 0 ≤ ov w) → 0 ≤ hvM ov t (k + 1) v fd ∧ (t = 0 → hvM ov t (k + 1) v fd ≤ ov (v + k)) ∧ (t ≠ 0 → ov (v + k) ≤ hvM ov t (k + 1) v fd)
  | 0, v, fd, h => by
    have := h v (by omega) (by omega)
    unfold hvM hvM
    rw [show v + ((0 : Nat) : Int) = v by omega]
    split <;> omega
  | k + 1, v, fd, h => by
    have i := hv_last (ov := ov) (t := t) k (v + 1) (if fd < 0 ∨ (t = 0 ∧ ov v < fd) ∨ (t ≠ 0 ∧ fd < ov v) then ov v else fd) (fun w h1 h2 => h w (by omega) (by omega))
    rw [show v + 1 + (k : Int) = v + ((k + 1 : Nat) : Int) by omega] at i
    exact i
theorem hv_stay {ov : Int → Int} {t c r : Int} (h0 : 0 ≤ r) (h1 : t = 0 → r ≤ c) (h2 : t ≠ 0 → c ≤ r) : ∀ (k : Nat) (v : Int), (∀ w, v ≤ w → w < v + k → ov w = c) → hvM ov t k v r = r
  | 0, v, h => rfl
  | k + 1, v, h => by
    have e := h v (by omega) (by omega)
    unfold hvM
    rw [e, if_neg (by omega)]
    exact hv_stay h0 h1 h2 k (v + 1) (fun w a b => h w (by omega) (by omega))
theorem s_hangs : Sim_hangs := by
  intro l p fr to y t hl hp' hfr hto hy ht
  refine simQ fun m S hI hA hS hO => ?_
  have e1 : m 1 0 0 3 = S 29 2 := hA.1.2.1
  unfold hangsR hangsM nhangsR nhangsS
  rw [e1]
  by_cases c1 : ¬ ((0 ≤ l ∧ l ≤ 1) ∧ (0 ≤ p ∧ p ≤ S 29 2 - 1) ∧ (0 ≤ fr ∧ fr ≤ 299) ∧ (0 ≤ to ∧ to ≤ 299) ∧ (0 ≤ y ∧ y ≤ 299) ∧ (0 ≤ t ∧ t ≤ 1) ∧ fr ≤ to)
  · have c2 : ¬ ((0 ≤ l ∧ l ≤ 1) ∧ (0 ≤ p ∧ p ≤ S 29 2 - 1) ∧ (0 ≤ fr ∧ fr ≤ 299) ∧ (0 ≤ to ∧ to ≤ 299) ∧ fr ≤ to ∧ (0 ≤ y ∧ y ≤ 299) ∧ (0 ≤ t ∧ t ≤ 1)) := by omega
    simp only [if_pos c1, if_pos c2]; exact ⟨hI, Core.rf, trivial, hS, WG.rf⟩
  have c2 : ¬ ¬ ((0 ≤ l ∧ l ≤ 1) ∧ (0 ≤ p ∧ p ≤ S 29 2 - 1) ∧ (0 ≤ fr ∧ fr ≤ 299) ∧ (0 ≤ to ∧ to ≤ 299) ∧ fr ≤ to ∧ (0 ≤ y ∧ y ≤ 299) ∧ (0 ≤ t ∧ t ≤ 1)) := by omega
  simp only [if_neg c1, if_neg c2]
  obtain ⟨P, rfl⟩ : ∃ P : Nat, p = P := ⟨p.toNat, by omega⟩
  rw [Int.toNat_natCast, show (4 * (P : Int)).toNat = 4 * P by omega]
  have hl2 : l.toNat < 2 := by omega
  have hy2 : 0 ≤ y ∧ y ≤ 299 := by omega
  obtain ⟨k1, hk1⟩ : ∃ k1 : Nat, ((min to (max fr (y + 1))) + 1 - fr).toNat = k1 + 1 := ⟨((min to (max fr (y + 1))) - fr).toNat, by omega⟩
  obtain ⟨k2, hk2⟩ : ∃ k2 : Nat, (to + 1 - fr).toNat = (k1 + 1) + k2 := ⟨(to + 1 - fr).toNat - (k1 + 1), by omega⟩
  obtain ⟨g1, C', g2⟩ := hgN_v (p := P) (t := t) hI hA hO hS hl2 hy2 (to + 1 - fr).toNat fr m S (-1) (TJ.beg hI hS) (by omega) (by omega)
  have hf : 0 ≤ fr ∧ fr ≤ 299 := by omega
  have b := exO_bd (ln := l.toNat) (p := P) (sl := 0) hI hf hy2.2
  have q := hgL_v (p := P) (t := t) (fr := fr) hI hA hO hS hl2 hy2 k1 (fr + 1) (exD m l.toNat P 0 fr y) (exO m l.toNat P 0 fr y) (exD_inv hI hf hy2.2) (Core.rf.tr exD_core) (by omega) (by omega) (by omega) b.1
  have eL : hgL l.toNat P y t fr (k1 + 1) fr m 0 = hgL l.toNat P y t fr k1 (fr + 1) (exD m l.toNat P 0 fr y) (exO m l.toNat P 0 fr y) := by
    rw [hgL, if_pos rfl]
  have eM : hvM (fun v => exO m l.toNat P 0 v y) t (k1 + 1) fr (-1) = hvM (fun v => exO m l.toNat P 0 v y) t k1 (fr + 1) (exO m l.toNat P 0 fr y) := by
    rw [hvM, if_pos (Or.inl (by omega))]
  rw [hk1, eL]
  refine ⟨q.2.1, q.2.2, ?_, g2.2.2.1.up (hS 33 _ rfl), g2.2.2.2⟩
  rw [q.1, g1, hk2, hv_cut, ← eM]
  obtain ⟨s1, s2, s3⟩ := hv_last (ov := fun v => exO m l.toNat P 0 v y) (t := t) k1 fr (-1) (fun w h1 h2 => (exO_bd (ln := l.toNat) (p := P) (sl := 0) hI (show 0 ≤ w ∧ w ≤ 299 by omega) hy2.2).1)
  refine (hv_stay (c := exO m l.toNat P 0 (fr + k1) y) s1 s2 s3 k2 _ (fun w h1 h2 => ?_)).symm
  exact late_eq (by omega) (by omega)
