theorem tuL_inv {β L : PS} {P : Nat} (hr : rtOK β) (hn : (β 12 0).toNat ≤ 8) (hn2 : (β 13 0).toNat ≤ 12) (hd : ∀ p, β 8 p ≤ 299) : ∀ (f : Nat) (T : PS) (nx : Int), InvS kC T → CB β T → nx < 12 → InvS kC (tuL β L P f T nx) ∧ CB β (tuL β L P f T nx)
  | 0, T, nx, h1, h2, _ => ⟨h1, h2⟩
  | f + 1, T, nx, h1, h2, h3 => by
    unfold tuL
    split
    · have g := takeS_inv (L := L) (p := nx.toNat) h1 hr h2 hn (hd _) (by omega)
      refine tuL_inv hr hn hn2 hd f _ _ g.1 g.2 ?_
      split
      · omega
      · have := nextL_rg (β := β) (S := takeS β L T nx.toNat) (tg := 299) (β 13 0).toNat
        unfold nextS
        omega
    · exact ⟨h1, h2⟩
/-- the course up to a payment -/
theorem put_sim {β L S T0 : PS} {l P : Nat} (hC : CR β L S l) (hR : PyR β) (h13 : β 13 0 ≤ 12) (hS : InvS kM S) (hO : mOK S) (hT : InvS kC T0) (hw : ∀ d, 0 ≤ β 0 d ∧ β 0 d ≤ 9999) (h1 : ∀ d, 0 ≤ β 1 d) (hP : (P : Int) < β 13 0) : GR β (tuS β L (stS β T0) P) (gdL l (β 8 P) (rnS (mdS S l (β 8 P).toNat) (β 8 P)) (P + 1)) (β 8 P) ∧ tuS β L (stS β T0) P 10 13 = gdL l (β 8 P) (rnS (mdS S l (β 8 P).toNat) (β 8 P)) (P + 1) 29 15 := by
  obtain ⟨y, hy⟩ : ∃ y, y = β 8 P := ⟨_, rfl⟩
  obtain ⟨r8, r10, r11⟩ := hR P hP
  rw [← hy] at r8 ⊢
  obtain ⟨G, hGd⟩ : ∃ G : Nat → PS → PS, G = fun f T => tuL β L P f T (nextS β T 299) := ⟨_, rfl⟩
  have hG : ∀ f T q, q ≠ P → nextS β T 299 = (q : Int) → G (f + 1) T = G f (takeS β L T q) := fun f T q h2 h3 => by
    rw [hGd]
    show tuL β L P (f + 1) T (nextS β T 299) = tuL β L P f (takeS β L T q) (nextS β (takeS β L T q) 299)
    rw [h3, tuL, if_pos (by omega), if_neg (by omega), Int.toNat_natCast]
  have hc := cnP_le (RemP β (stS β T0)) (β 13 0).toNat
  have hK := MK.beg hS hO
  have hCb : CR β L (begS S) l := hC.wf (begL_wf 8)
  have hb := MR.beg hC hT hw h1 hR
  have hday : ∃ (f' : Nat) (T' : PS), G 12 (stS β T0) = G f' T' ∧ cnP (RemP β T') (β 13 0).toNat ≤ f' ∧ MR β T' (rnS (mdS S l y.toNat) y) y 0 := by
    by_cases c : y = 0
    · subst c
      exact ⟨12, _, rfl, by omega, hb⟩
    · obtain ⟨k, hk⟩ : ∃ k : Nat, y = ((0 + (k + 1) : Nat) : Int) := ⟨(y - 1).toNat, by omega⟩
      obtain ⟨f', T', i1, i2, i3, -⟩ := days_gen (y0 := 0) (t := 299) (Y := y) (by omega) hCb hR hK G (fun _ _ _ => True) (fun f T q h1 h2 h3 => hG f T q (fun e => by rw [e] at h2; omega) h3) (fun _ _ _ _ _ _ _ => trivial) (fun _ _ _ _ _ _ => trivial) (fun _ _ _ _ => trivial) 12 (stS β T0) (by omega) hb trivial k (by omega) (by omega)
      refine ⟨f', T', i1, i2, ?_⟩
      have o := mgo_ok (l := l) (y := 0) hK (k + 1) (by omega)
      have := i3.next (hCb.wf o.2)
      rw [show ((0 + k : Nat) : Int) + 1 = y by omega, mgo_md] at this
      rw [show y.toNat = k + 1 by omega]
      exact this
  obtain ⟨f', T', i1, i2, i3⟩ := hday
  obtain ⟨o1, o2, o3, o4⟩ := md_ok (l := l) hS hO y.toNat (by omega)
  have r := rnS_cm (y := y) o1 (hO.wf o4) (by rw [show (y - 1).toNat = ((y.toNat : Int) - 1).toNat by omega]; exact o2) (by have := o3; rw [show ((y.toNat : Nat) : Int) = y by omega] at this; exact this) r8
  have hC2 : CR β L (rnS (mdS S l y.toNat) y) l := (hC.wf o4).wf rnS_wf
  have hO2 : mOK (rnS (mdS S l y.toNat) y) := (hO.wf o4).wf rnS_wf
  obtain ⟨f2, T2, j1, j2, j3, -⟩ := pays_gen (l := l) (t := 299) r8 r8.2 hC2 hR r.1 hO2 G (fun _ _ => True) P (by omega) (fun f T q h1 h2 h3 => hG f T q (by omega) h3) (fun _ _ _ _ _ _ => trivial) (fun _ _ _ _ _ => trivial) f' T' i2 i3 trivial P (Nat.le_refl _)
  obtain ⟨D0, hD0⟩ : ∃ D0, D0 = rnS (mdS S l y.toNat) y := ⟨_, rfl⟩
  rw [← hD0] at j3 r hC2 hO2 ⊢
  have hn2 : β 13 0 = D0 29 2 := hC2.1.2.1
  obtain ⟨d1, d2⟩ := gdL_ok (l := l) r.1 hO2 r8 P (by omega)
  have hC3 : CR β L (gdL l y D0 P) l := hC2.wf d2.1
  obtain ⟨k1, k4, k5, k2, k3, -⟩ := take_sim r8 hC3 j3 hP hy.symm r10 r11 d1 (hO2.wf d2.1)
  have hp8 : β 8 P = gdL l y D0 P 33 (4 * P) := hC3.1.2.2.2.1 P hP 8 (by omega) (by omega)
  have hrem := (j3.2.2.2 P hP).mpr (Or.inr ⟨hy.symm, Nat.le_refl P⟩)
  have hnx : nextS β T2 299 = P := next_is hP hrem (by omega) (fun q hq2 hrq => by
    have := (j3.2.2.2 q hq2).mp hrq
    omega)
  have hpos : 1 ≤ f2 := by
    have := cnP_lt (P := RemP β T2) (Q := fun _ => False) (p := P) hrem (fun h => h) (β 13 0).toNat (by omega) (fun q _ h => h.elim)
    omega
  obtain ⟨f3, rfl⟩ : ∃ f3, f2 = f3 + 1 := ⟨f2 - 1, by omega⟩
  have e1 : tuS β L (stS β T0) P = takeS β L T2 P := by
    have : tuS β L (stS β T0) P = G 12 (stS β T0) := by rw [hGd]; rfl
    rw [this, i1, j1, hGd]
    show tuL β L P (f3 + 1) T2 (nextS β T2 299) = _
    rw [hnx, tuL, if_pos (by omega), if_pos rfl, Int.toNat_natCast]
    cases f3 with
    | zero => rfl
    | succ f3 => rw [tuL, if_neg (by omega)]
  have e2 : gdL l y D0 (P + 1) = ppy (gdL l y D0 P) l P y := by
    rw [gdL, if_pos (by omega)]
  rw [e1, e2]
  exact ⟨k4, k5⟩
theorem s_put : Sim_put := by
  intro l p d t hl hp' hd ht
  refine simQ fun m S hI hA hS hO => ?_
  have e0 : m 1 0 0 1 = S 29 0 := hA.1.1
  have e1 : m 1 0 0 3 = S 29 2 := hA.1.2.1
  have b0 : 0 ≤ S 29 0 ∧ S 29 0 ≤ 8 := hS 29 0 rfl
  unfold putR putM nputR nputS
  rw [e0, e1]
  by_cases c1 : ¬ ((0 ≤ l ∧ l ≤ 1) ∧ (0 ≤ p ∧ p ≤ S 29 2 - 1) ∧ (d = -1 ∨ (0 ≤ d ∧ d ≤ S 29 0 - 1)) ∧ (0 ≤ t ∧ t ≤ 1))
  · have c2 : ¬ ((0 ≤ l ∧ l ≤ 1) ∧ (0 ≤ p ∧ p ≤ S 29 2 - 1) ∧ (-1 ≤ d ∧ d ≤ S 29 0 - 1) ∧ (0 ≤ t ∧ t ≤ 1)) := by omega
    simp only [if_pos c1, if_pos c2]; exact ⟨hI, Core.rf, trivial, hS, WG.rf⟩
  have c2 : ¬ ¬ ((0 ≤ l ∧ l ≤ 1) ∧ (0 ≤ p ∧ p ≤ S 29 2 - 1) ∧ (-1 ≤ d ∧ d ≤ S 29 0 - 1) ∧ (0 ≤ t ∧ t ≤ 1)) := by omega
  simp only [if_neg c1, if_neg c2, ite_self]
  have hl2 : l.toNat < 2 := by omega
  obtain ⟨P, rfl⟩ : ∃ P : Nat, p = P := ⟨p.toNat, by omega⟩
  have hC0 := st_CR (j := 0) hI hA hl2
  obtain ⟨z1, z2, z3, z4, z5⟩ := st_hy (j := 0) (ln := l.toNat) hI
  have hn : bk (stM m 0 0 l.toNat) (2 + 0) 12 0 = S 29 0 := hC0.1.1
  have hn3 : bk (stM m 0 0 l.toNat) (2 + 0) 13 0 = S 29 2 := hC0.1.2.1
  have hb8 : bk (stM m 0 0 l.toNat) (2 + 0) 8 P = S 33 (4 * P) := hC0.1.2.2.2.1 P (by omega) 8 (by omega) (by omega)
  obtain ⟨g1, g2⟩ := put_sim (P := P) hC0 z1 z2 hS hO z3 z4 z5 (by omega)
  have r8 := (z1 P (by omega)).1
  rw [hb8] at g1 g2 r8
  rw [show (4 * (P : Int)).toNat = 4 * P by omega, show ((P : Int) + 1).toNat = P + 1 by omega, Int.toNat_natCast]
  obtain ⟨o1, o2, o3, o4⟩ := md_ok (l := l.toNat) hS hO (S 33 (4 * P)).toNat (by omega)
  have r := rnS_cm (y := S 33 (4 * P)) o1 (hO.wf o4) (by rw [show (S 33 (4 * P) - 1).toNat = (((S 33 (4 * P)).toNat : Int) - 1).toNat by omega]; exact o2) (by have := o3; rw [show (((S 33 (4 * P)).toNat : Nat) : Int) = S 33 (4 * P) by omega] at this; exact this) r8
  have hW : WF S (rnS (mdS S l.toNat (S 33 (4 * P)).toNat) (S 33 (4 * P))) := o4.tr rnS_wf
  obtain ⟨d1, d2⟩ := gdL_ok (l := l.toNat) r.1 (hO.wf hW) r8 (P + 1) (by rw [hW.2 2 (by omega)]; omega)
  have hI3 : Inv (stM m 0 0 l.toNat) := hI.stM
  have i1 := tuL_inv (L := lw (stM m 0 0 l.toNat) (16 + 0)) (P := P) (rt_of hI3 (2 + 0)) (n8_of hI3 (2 + 0)) (by omega) (fun p => (hI3 7 (2 + 0) p 0).2) 12 _ (nextS (bk (stM m 0 0 l.toNat) (2 + 0)) (stS (bk (stM m 0 0 l.toNat) (2 + 0)) (fun k => (stM m 0 0 l.toNat) k 0 0)) 299) (st_inv hI).1 (st_inv hI).2 (by
    have := nextL_rg (β := bk (stM m 0 0 l.toNat) (2 + 0)) (S := stS (bk (stM m 0 0 l.toNat) (2 + 0)) (fun k => (stM m 0 0 l.toNat) k 0 0)) (tg := 299) (bk (stM m 0 0 l.toNat) (2 + 0) 13 0).toNat
    unfold nextS
    omega)
  refine ⟨hI3.wrC i1.1, fun k j i h => (wrC_core h).trans (stM_core h), ?_, d1, (hW.tr d2.1).wg⟩
  by_cases cd : d = -1
  · rw [if_pos cd, if_pos (by omega)]
    exact g2
  · rw [if_neg cd, if_neg (show ¬ d < 0 by omega)]
    obtain ⟨a1, a2, a3⟩ := g1.2 d.toNat (by omega)
    by_cases ct : t = 0
    · rw [if_pos ct, if_pos ct]; exact a2
    · rw [if_neg ct, if_neg ct]; exact a3
