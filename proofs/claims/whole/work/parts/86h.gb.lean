theorem rnS_zr {β L D : PS} {l : Nat} {y : Int} (hC : CR β L D l) (h : ZR β D) : ZR β (rnS D y) := fun d h1 h2 => by
  have hn : β 12 0 = D 29 0 := hC.1.1
  unfold rnS
  rw [rnL_x _ d (by omega), rnL_x _ d (by omega)]
  exact h d h1 h2
/-- all days up to n - 1 -/
theorem days_sim {β L S T0 : PS} {l : Nat} {t : Int} (ht : t ≤ 299) (hC : CR β L S l) (hR : PyR β) (h13 : β 13 0 ≤ 12) (hS : InvS kM S) (hO : mOK S) (hT : InvS kC T0) (hw : ∀ d, 0 ≤ β 0 d ∧ β 0 d ≤ 9999) (h1 : ∀ d, 0 ≤ β 1 d) : ∀ n : Nat, (n : Int) ≤ t → ∃ (f' : Nat) (T' : PS), gbL β L t 12 (stS β T0) = gbL β L t f' T' ∧ cnP (RemP β T') (β 13 0).toNat ≤ f' ∧ MR β T' (mdS S l (n + 1)) n (β 13 0).toNat
  | 0, hn => by
    have hI : InvS kC (upT (upT (upT T0 10 2 0) 10 3 (-1)) 10 13 0) := InvS.up (InvS.up (InvS.up hT (show 0 ≤ (0 : Int) ∧ (0 : Int) ≤ 299 by omega)) (show -1 ≤ (-1 : Int) ∧ (-1 : Int) ≤ 11 by omega)) (by show True; trivial)
    have e2 : stS β T0 10 2 = 0 := (beg_sim hC hT hw h1).1
    have e3 : stS β T0 10 3 = -1 := by
      unfold stS
      rw [stL_k (by omega), upT_x (by omega), upT_self]
    have hCb : CR β L (begS S) l := hC.wf (begL_wf 8)
    have hz : ZR β (begS S) := fun d _ h2 => ⟨(begL_at (S := S) 8 d h2).1, (begL_at (S := S) 8 d h2).2.1⟩
    have hM : MR β (stS β T0) (rnS (begS S) 0) 0 0 := by
      refine ⟨by omega, by rw [runToS_id (by omega)]; exact beg_sim hC hT hw h1, rnS_zr hCb hz, fun q hq => ?_⟩
      unfold RemP
      rw [e2, e3]
      omega
    have hbI := begL_inv hS 8
    have r := rnS_cm (S := begS S) (y := 0) hbI (hO.wf (begL_wf 8)) (begS_cm) (fun d hd _ => (begL_at (S := S) 8 d (by
      have q : begS S 29 0 = S 29 0 := (begL_wf (S := S) 8).2 0 (by omega)
      have q2 : 0 ≤ S 29 0 ∧ S 29 0 ≤ 8 := hS 29 0 rfl
      omega)).2.1) (by omega)
    have hc := cnP_le (RemP β (stS β T0)) (β 13 0).toNat
    have hn2 : β 13 0 = begS S 29 2 := hCb.1.2.1
    have := pays_sim (l := l) (t := t) (by omega) hn (hCb.wf rnS_wf) hR r.1 ((hO.wf (begL_wf 8)).wf rnS_wf) 12 (stS β T0) (by omega) hM (β 13 0).toNat (Nat.le_refl _)
    rw [hn2] at this ⊢
    exact this
  | n + 1, hn => by
    obtain ⟨f', T', i1, i2, i3⟩ := days_sim ht hC hR h13 hS hO hT hw h1 n (by omega)
    obtain ⟨o1, o2, o3, o4⟩ := md_ok (l := l) hS hO (n + 1) (by omega)
    have hC2 : CR β L (mdS S l (n + 1)) l := hC.wf o4
    obtain ⟨m1, m2, m3, m4⟩ := i3
    have hy : (0 : Int) ≤ ((n + 1 : Nat) : Int) ∧ ((n + 1 : Nat) : Int) ≤ 299 := by omega
    have hM : MR β T' (rnS (mdS S l (n + 1)) ((n + 1 : Nat) : Int)) ((n + 1 : Nat) : Int) 0 := by
      have rs := run_step hC2 m1 m2
      rw [show (n : Int) + 1 = ((n + 1 : Nat) : Int) by omega] at rs
      refine ⟨by omega, rs, rnS_zr hC2 m3, fun q hq => ?_⟩
      rw [m4 q hq]
      omega
    have r := rnS_cm o1 (hO.wf o4) o2 o3 hy
    have hn2 : β 13 0 = mdS S l (n + 1) 29 2 := hC2.1.2.1
    obtain ⟨f2, T2, j1, j2, j3⟩ := pays_sim (l := l) (t := t) hy hn (hC2.wf rnS_wf) hR r.1 ((hO.wf o4).wf rnS_wf) f' T' i2 hM (β 13 0).toNat (Nat.le_refl _)
    refine ⟨f2, T2, i1.trans j1, j2, ?_⟩
    rw [hn2] at j3 ⊢
    exact j3
/-- the course of days up to t: class and model -/
theorem gb_sim {β L S T0 : PS} {l : Nat} {t : Int} (ht : 0 ≤ t ∧ t ≤ 299) (hC : CR β L S l) (hR : PyR β) (h13 : β 13 0 ≤ 12) (hS : InvS kM S) (hO : mOK S) (hT : InvS kC T0) (hw : ∀ d, 0 ≤ β 0 d ∧ β 0 d ≤ 9999) (h1 : ∀ d, 0 ≤ β 1 d) : DR β (gbS β L (stS β T0) t) (mdS S l (t + 1).toNat) t := by
  obtain ⟨f', T', i1, i2, m1, m2, m3, m4⟩ := days_sim ht.2 hC hR h13 hS hO hT hw h1 t.toNat (by omega)
  rw [show ((t.toNat : Nat) : Int) = t by omega] at m1 m2 m4
  unfold gbS
  rw [i1]
  have hno : nextS β T' t = -1 := next_no (fun q hq hr => by
    have := (m4 q hq).mp hr
    omega)
  have e : gbL β L t f' T' = T' := by
    cases f' with
    | zero => rfl
    | succ f' => rw [gbL, hno, if_neg (by omega)]
  rw [e, show (t + 1).toNat = t.toNat + 1 by omega]
  exact m2
