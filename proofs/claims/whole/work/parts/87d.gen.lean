/-- days of the model from one day on -/
noncomputable def mgo (l : Nat) (D : PS) (y : Nat) : Nat → PS
  | 0 => D
  | k + 1 => gdS (mgo l D y k) l ((y + k : Nat) : Int)
theorem mgo_md {S : PS} {l : Nat} : ∀ n, mgo l (begS S) 0 n = mdS S l n
  | 0 => rfl
  | n + 1 => by
    show gdS (mgo l (begS S) 0 n) l ((0 + n : Nat) : Int) = gdS (mdS S l n) l n
    rw [mgo_md n, Nat.zero_add]
/-- the model stands ready for a day -/
def MK (D : PS) (y : Int) : Prop := InvS kM D ∧ mOK D ∧ CM D (y - 1).toNat ∧ Z40 D y
theorem MK.day {D : PS} {l : Nat} {y : Int} (h : MK D y) (hy : 0 ≤ y ∧ y ≤ 299) : MK (gdS D l y) (y + 1) ∧ WF D (gdS D l y) := by
  obtain ⟨g1, g2, g3, g4⟩ := gdS_ok (l := l) h.1 h.2.1 h.2.2.1 h.2.2.2 hy
  exact ⟨⟨g1, h.2.1.wf g4, by rw [show y + 1 - 1 = y by omega]; exact g2, g3⟩, g4⟩
theorem mgo_ok {D : PS} {l y : Nat} (h : MK D y) : ∀ k, y + k ≤ 300 → MK (mgo l D y k) ((y + k : Nat) : Int) ∧ WF D (mgo l D y k)
  | 0, _ => ⟨h, WF.rf⟩
  | k + 1, hk => by
    obtain ⟨i1, i2⟩ := mgo_ok (l := l) h k (by omega)
    obtain ⟨j1, j2⟩ := i1.day (l := l) (by omega)
    exact ⟨j1, i2.tr j2⟩
theorem MK.beg {S : PS} (hS : InvS kM S) (hO : mOK S) : MK (begS S) 0 := by
  obtain ⟨a, b, c, d⟩ := md_ok (l := 0) hS hO 0 (by omega)
  exact ⟨a, hO.wf d, b, c⟩
theorem MR.next {β L T D : PS} {l : Nat} {y : Int} (hC : CR β L D l) (h : MR β T D y (β 13 0).toNat) : MR β T (rnS D (y + 1)) (y + 1) 0 := by
  obtain ⟨m1, m2, m3, m4⟩ := h
  refine ⟨by omega, run_step hC m1 m2, rnS_zr hC m3, fun q hq => ?_⟩
  rw [m4 q hq]
  omega
theorem MR.beg {β L S T0 : PS} {l : Nat} (hC : CR β L S l) (hT : InvS kC T0) (hw : ∀ d, 0 ≤ β 0 d ∧ β 0 d ≤ 9999) (h1 : ∀ d, 0 ≤ β 1 d) (hR : PyR β) : MR β (stS β T0) (rnS (begS S) 0) 0 0 := by
  have e2 : stS β T0 10 2 = 0 := (beg_sim hC hT hw h1).1
  have e3 : stS β T0 10 3 = -1 := by
    unfold stS
    rw [stL_k (by omega), upT_x (by omega), upT_self]
  have hCb : CR β L (begS S) l := hC.wf (begL_wf 8)
  have hz : ZR β (begS S) := fun d _ h2 => ⟨(begL_at (S := S) 8 d h2).1, (begL_at (S := S) 8 d h2).2.1⟩
  refine ⟨by omega, by rw [runToS_id (by omega)]; exact beg_sim hC hT hw h1, rnS_zr hCb hz, fun q hq => ?_⟩
  unfold RemP
  rw [e2, e3]
  have := (hR q hq).1
  omega
theorem MR.run {β T D : PS} {y : Int} (h : MR β T D y (β 13 0).toNat) : MR β (runToS β T y) D y (β 13 0).toNat := by
  obtain ⟨m1, m2, m3, m4⟩ := h
  have e2 := runToS_le (β := β) m1
  refine ⟨by omega, by rw [runToS_id (S := runToS β T y) (by omega)]; exact m2, m3, fun q hq => ?_⟩
  rw [← m4 q hq]
  by_cases c : T 10 2 < y
  · unfold RemP
    rw [(runToS_day c).1, (runToS_day c).2]
    have := m4 q hq
    unfold RemP at this
    omega
  · rw [runToS_id (by omega)]
theorem pays_gen {β L D0 : PS} {l : Nat} {y t : Int} (hy : 0 ≤ y ∧ y ≤ 299) (hyt : y ≤ t) (hC : CR β L D0 l) (hR : PyR β) (hS : InvS kM D0) (hO : mOK D0) (G : Nat → PS → PS) (K : Nat → PS → Prop) (P : Nat) (hP : P ≤ (β 13 0).toNat) (hG : ∀ f T q, q < P → β 8 q = y → nextS β T t = (q : Int) → G (f + 1) T = G f (takeS β L T q)) (hK : ∀ T q, q < P → β 8 q = y → MR β T (gdL l y D0 q) y q → K q T → K (q + 1) (takeS β L T q)) (hK2 : ∀ T q, q < P → β 8 q ≠ y → K q T → K (q + 1) T) (f : Nat) (T : PS) (hf : cnP (RemP β T) (β 13 0).toNat ≤ f) (hM : MR β T D0 y 0) (hk : K 0 T) : ∀ p : Nat, p ≤ P → ∃ (f' : Nat) (T' : PS), G f T = G f' T' ∧ cnP (RemP β T') (β 13 0).toNat ≤ f' ∧ MR β T' (gdL l y D0 p) y p ∧ K p T'
  | 0, _ => ⟨f, T, rfl, hf, hM, hk⟩
  | p + 1, hq => by
    obtain ⟨f', T', i1, i2, i3, i4⟩ := pays_gen hy hyt hC hR hS hO G K P hP hG hK hK2 f T hf hM hk p (by omega)
    have hn : β 13 0 = D0 29 2 := hC.1.2.1
    obtain ⟨d1, d2⟩ := gdL_ok (l := l) hS hO hy p (by omega)
    have hC2 : CR β L (gdL l y D0 p) l := hC.wf d2.1
    have hp8 : β 8 p = gdL l y D0 p 33 (4 * p) := hC2.1.2.2.2.1 p (by omega) 8 (by omega) (by omega)
    obtain ⟨r8, r10, r11⟩ := hR p (by omega)
    unfold gdL
    by_cases c : β 8 p = y
    · rw [if_pos (by omega)]
      obtain ⟨k1, -, -, k2, k3, -⟩ := take_sim hy hC2 i3 (by omega) c r10 r11 d1 (hO.wf d2.1)
      have hrem := (i3.2.2.2 p (by omega)).mpr (Or.inr ⟨c, Nat.le_refl p⟩)
      have hnx : nextS β T' t = p := next_is (by omega) hrem (by omega) (fun q hq2 hrq => by
        have := (i3.2.2.2 q hq2).mp hrq
        omega)
      have hcn := cnP_lt (P := RemP β T') (Q := RemP β (takeS β L T' p)) (p := p) hrem (fun h => by
        unfold RemP at h
        rw [k2, k3] at h
        omega) (β 13 0).toNat (by omega) (fun q hq2 h => by
        have := (k1.2.2.2 q (by omega)).mp h
        exact (i3.2.2.2 q (by omega)).mpr (by omega))
      obtain ⟨f2, rfl⟩ : ∃ f2, f' = f2 + 1 := ⟨f' - 1, by omega⟩
      refine ⟨f2, takeS β L T' p, ?_, by omega, k1, hK T' p (by omega) c i3 i4⟩
      rw [i1, hG f2 T' p (by omega) c hnx]
    · rw [if_neg (by omega)]
      have i5 := hK2 T' p (by omega) c i4
      obtain ⟨m1, m2, m3, m4⟩ := i3
      refine ⟨f', T', i1, i2, ⟨m1, m2, m3, fun q hq2 => ?_⟩, i5⟩
      rw [m4 q hq2]
      by_cases e : q = p
      · subst e; omega
      · omega
theorem days_gen {β L D : PS} {l y0 : Nat} {t Y : Int} (ht : t ≤ 299) (hC : CR β L D l) (hR : PyR β) (hD : MK D y0) (G : Nat → PS → PS) (K : Nat → Nat → PS → Prop) (hG : ∀ f T q, q < (β 13 0).toNat → β 8 q < Y → nextS β T t = (q : Int) → G (f + 1) T = G f (takeS β L T q)) (hK : ∀ T q k, q < (β 13 0).toNat → β 8 q = ((y0 + k : Nat) : Int) → MR β T (gdL l ((y0 + k : Nat) : Int) (rnS (mgo l D y0 k) ((y0 + k : Nat) : Int)) q) ((y0 + k : Nat) : Int) q → K k q T → K k (q + 1) (takeS β L T q)) (hK2 : ∀ T q k, q < (β 13 0).toNat → β 8 q ≠ ((y0 + k : Nat) : Int) → K k q T → K k (q + 1) T) (hK3 : ∀ T k, MR β T (mgo l D y0 (k + 1)) ((y0 + k : Nat) : Int) (β 13 0).toNat → K k (β 13 0).toNat T → K (k + 1) 0 T) (f : Nat) (T : PS) (hf : cnP (RemP β T) (β 13 0).toNat ≤ f) (hM : MR β T (rnS D y0) y0 0) (hk : K 0 0 T) : ∀ k : Nat, ((y0 + k : Nat) : Int) ≤ t → ((y0 + k : Nat) : Int) < Y → ∃ (f' : Nat) (T' : PS), G f T = G f' T' ∧ cnP (RemP β T') (β 13 0).toNat ≤ f' ∧ MR β T' (mgo l D y0 (k + 1)) ((y0 + k : Nat) : Int) (β 13 0).toNat ∧ K k (β 13 0).toNat T'
  | 0, hn, hY => by
    have r := rnS_cm (y := y0) hD.1 hD.2.1 hD.2.2.1 hD.2.2.2 (by omega)
    have hn2 : β 13 0 = D 29 2 := hC.1.2.1
    have := pays_gen (l := l) (t := t) (y := ((y0 + 0 : Nat) : Int)) (by omega) hn (hC.wf rnS_wf) hR r.1 (hD.2.1.wf rnS_wf) G (K 0) (β 13 0).toNat (Nat.le_refl _) (fun f T q h1 h2 h3 => hG f T q h1 (by omega) h3) (fun T q h1 h2 h3 h4 => hK T q 0 h1 h2 h3 h4) (fun T q h1 h2 h3 => hK2 T q 0 h1 h2 h3) f T hf hM hk (β 13 0).toNat (Nat.le_refl _)
    rw [hn2] at this ⊢
    exact this
  | k + 1, hn, hY => by
    obtain ⟨f', T', i1, i2, i3, i4⟩ := days_gen ht hC hR hD G K hG hK hK2 hK3 f T hf hM hk k (by omega) (by omega)
    obtain ⟨o1, o4⟩ := mgo_ok (l := l) hD (k + 1) (by omega)
    have hC2 : CR β L (mgo l D y0 (k + 1)) l := hC.wf o4
    have hM2 := i3.next hC2
    rw [show ((y0 + k : Nat) : Int) + 1 = ((y0 + (k + 1) : Nat) : Int) by omega] at hM2
    have r := rnS_cm o1.1 o1.2.1 o1.2.2.1 o1.2.2.2 (by omega)
    have hn2 : β 13 0 = mgo l D y0 (k + 1) 29 2 := hC2.1.2.1
    obtain ⟨f2, T2, j1, j2, j3, j4⟩ := pays_gen (l := l) (t := t) (y := ((y0 + (k + 1) : Nat) : Int)) (by omega) hn (hC2.wf rnS_wf) hR r.1 (o1.2.1.wf rnS_wf) G (K (k + 1)) (β 13 0).toNat (Nat.le_refl _) (fun f T q h1 h2 h3 => hG f T q h1 (by omega) h3) (fun T q h1 h2 h3 h4 => hK T q (k + 1) h1 h2 h3 h4) (fun T q h1 h2 h3 => hK2 T q (k + 1) h1 h2 h3) f' T' i2 hM2 (hK3 T' k i3 i4) (β 13 0).toNat (Nat.le_refl _)
    refine ⟨f2, T2, i1.trans j1, j2, ?_⟩
    rw [hn2] at j3 j4 ⊢
    exact ⟨j3, j4⟩
/-- the class goes on from one day to another -/
theorem gb_gen {β L D : PS} {l y0 k : Nat} {t : Int} (ht : t = ((y0 + k : Nat) : Int)) (ht2 : t ≤ 299) (hC : CR β L D l) (hR : PyR β) (h13 : β 13 0 ≤ 12) (hD : MK D y0) (K : Nat → Nat → PS → Prop) (hK : ∀ T q k, q < (β 13 0).toNat → β 8 q = ((y0 + k : Nat) : Int) → MR β T (gdL l ((y0 + k : Nat) : Int) (rnS (mgo l D y0 k) ((y0 + k : Nat) : Int)) q) ((y0 + k : Nat) : Int) q → K k q T → K k (q + 1) (takeS β L T q)) (hK2 : ∀ T q k, q < (β 13 0).toNat → β 8 q ≠ ((y0 + k : Nat) : Int) → K k q T → K k (q + 1) T) (hK3 : ∀ T k, MR β T (mgo l D y0 (k + 1)) ((y0 + k : Nat) : Int) (β 13 0).toNat → K k (β 13 0).toNat T → K (k + 1) 0 T) (T : PS) (hM : MR β T (rnS D y0) y0 0) (hk : K 0 0 T) : ∃ T', gbS β L T t = runToS β T' t ∧ MR β T' (mgo l D y0 (k + 1)) t (β 13 0).toNat ∧ K k (β 13 0).toNat T' := by
  have hc := cnP_le (RemP β T) (β 13 0).toNat
  obtain ⟨f', T', i1, i2, i3, i4⟩ := days_gen (Y := t + 1) ht2 hC hR hD (gbL β L t) K (fun f T q h1 h2 h3 => by rw [gbL, h3, if_pos (by omega), Int.toNat_natCast]) hK hK2 hK3 12 T (by omega) hM hk k (by omega) (by omega)
  rw [← ht] at i3
  refine ⟨T', ?_, i3, i4⟩
  unfold gbS
  rw [i1]
  have hno : nextS β T' t = -1 := next_no (fun q hq hr => by
    have := (i3.2.2.2 q hq).mp hr
    omega)
  have e : gbL β L t f' T' = T' := by
    cases f' with
    | zero => rfl
    | succ f' => rw [gbL, hno, if_neg (by omega)]
  rw [e]
/-- many days, no more said -/
theorem gb_many {β L D T : PS} {l y0 k : Nat} {t : Int} (ht : t = ((y0 + k : Nat) : Int)) (ht2 : t ≤ 299) (hC : CR β L D l) (hR : PyR β) (h13 : β 13 0 ≤ 12) (hD : MK D y0) (hM : MR β T (rnS D y0) y0 0) : MR β (gbS β L T t) (mgo l D y0 (k + 1)) t (β 13 0).toNat := by
  obtain ⟨T', a, b, -⟩ := gb_gen (l := l) ht ht2 hC hR h13 hD (fun _ _ _ => True) (fun _ _ _ _ _ _ _ => trivial) (fun _ _ _ _ _ _ => trivial) (fun _ _ _ _ => trivial) T hM trivial
  rw [a]
  exact b.run
