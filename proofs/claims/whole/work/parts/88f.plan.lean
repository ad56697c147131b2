theorem plN_skip {l : Nat} {w y e t : Int} {D : PS} {x0 : Nat} : ∀ k f, (∀ z, x0 ≤ z → z < x0 + k → ¬ (y ≤ (z : Int) ∧ ((z : Int) - y) % e = 0)) → plN l w y e t (k + f) x0 D = plN l w y e t f (x0 + k) (mgo l D x0 k)
  | 0, f, _ => by rw [Nat.zero_add]; rfl
  | k + 1, f, h => by
    rw [show k + 1 + f = k + (f + 1) by omega, plN_skip k (f + 1) (fun z h1 h2 => h z h1 (by omega)), plN, if_neg (h (x0 + k) (by omega) (by omega))]
    rfl
/-- a sum like the others comes -/
theorem plan_step {β L T D : PS} {l : Nat} {w : Int} {x : Nat} (hx : (x : Int) ≤ 299) (hw : 1 ≤ w ∧ w ≤ 9999) (hC : CR β L D l) (hM : MR β T D x (β 13 0).toNat) (h2 : T 10 2 = x) (hK : MK D ((x : Int) + 1)) : MR β (distS β L T (w * 10000) (-1)) (plH D l w x) x (β 13 0).toNat ∧ distS β L T (w * 10000) (-1) 10 13 = plH D l w x 29 15 ∧ MK (plH D l w x) ((x : Int) + 1) ∧ WF D (plH D l w x) ∧ DR β (distS β L T (w * 10000) (-1)) (plH D l w x) x := by
  obtain ⟨m1, m2, m3, m4⟩ := hM
  rw [runToS_id (by omega)] at m2
  have hch : chM (pa2 D (10000 * w) x) l (-1) (-1) = -4 := by
    unfold chM
    rw [if_neg (by omega), if_neg (by omega)]
  obtain ⟨g1, g2, g3⟩ := dist_sim (L := L) (l := l) (a := 10000 * w) (c := -1) (t := -4) (show (0 : Int) ≤ x by omega) (by omega) hC m2 (Or.inl ⟨rfl, rfl⟩)
  have ep : plH D l w x = pa4 (pa3 (pa2 D (10000 * w) x) l x (-4)) l x := by
    unfold plH paS
    rw [hch]
  rw [← ep] at g1 g2 g3
  obtain ⟨k1, k2⟩ := paS_ok (l := l) (a := 10000 * w) (w := -1) (an := -1) (y := x) hK.1 (by omega) (by omega)
  have k2' : Dn D (plH D l w x) := k2
  have k1' : InvS kM (plH D l w x) := k1
  have d10 := dist3_10 (β := β) (L := L) (T := T) (a := 10000 * w) (c := -1)
  have ed : distS β L T (w * 10000) (-1) = upT (dist3 β L T (10000 * w) (-1)).1 10 13 (dist3 β L T (10000 * w) (-1)).2 := by
    unfold distS
    rw [Int.mul_comm]
  have u2 : distS β L T (w * 10000) (-1) 10 2 = x := by rw [ed, upT_x (by omega), d10]; exact h2
  have u3 : distS β L T (w * 10000) (-1) 10 3 = T 10 3 := by rw [ed, upT_x (by omega), d10]
  have hDR : DR β (distS β L T (w * 10000) (-1)) (plH D l w x) x := by
    rw [ed]
    exact g1.1.c (upT_x (by omega)) (fun k hk => upT_kk (by omega)) (fun _ _ => rfl)
  refine ⟨⟨by omega, by rw [runToS_id (by omega)]; exact hDR, m3.dn k2', fun q hq => ?_⟩, by rw [ed, upT_self]; exact g2.symm, ⟨k1', hK.2.1.wf g3, k2'.cm hK.2.2.1, k2'.z40 hK.2.2.2⟩, g3, hDR⟩
  have := m4 q hq
  unfold RemP at this ⊢
  rw [u2, u3]
  rw [h2] at this
  exact this
theorem plan_sim {β L : PS} {l n N : Nat} {w y e t : Int} (hN : N = 300) (hn : β 12 0 = n) (hR : PyR β) (h13 : β 13 0 ≤ 12) (hw : 1 ≤ w ∧ w ≤ 9999) (hy : 0 ≤ y) (he : 1 ≤ e) : ∀ (f : Nat) (x : Int) (x0 : Nat) (T D : PS), (x0 : Int) ≤ x → x0 ≤ N → 301 ≤ f + x → y ≤ x → (x - y) % e = 0 → (∀ z : Nat, x0 ≤ z → (z : Int) < x → ¬ (y ≤ (z : Int) ∧ ((z : Int) - y) % e = 0)) → CR β L D l → MK D x0 → (x0 < N → MR β T (rnS D x0) x0 0) → (plF β L n w e t f x T).1 = (plN l w y e t (N - x0) x0 D).1 ∧ InvS kM (plN l w y e t (N - x0) x0 D).2 ∧ WF D (plN l w y e t (N - x0) x0 D).2
  | 0, x, x0, T, D, h1, h2, h3, h4, h5, h6, hC, hK, hM => by
    have sk := plN_skip (l := l) (w := w) (t := t) (D := D) (x0 := x0) (N - x0) 0 (fun z a b => h6 z a (by omega))
    rw [Nat.add_zero] at sk
    have o := mgo_ok (l := l) hK (N - x0) (by omega)
    rw [sk]
    exact ⟨rfl, o.1.1, o.2⟩
  | f + 1, x, x0, T, D, h1, h2, h3, h4, h5, h6, hC, hK, hM => by
    by_cases c : 299 < x
    · have sk := plN_skip (l := l) (w := w) (t := t) (D := D) (x0 := x0) (N - x0) 0 (fun z a b => h6 z a (by omega))
      rw [Nat.add_zero] at sk
      have o := mgo_ok (l := l) hK (N - x0) (by omega)
      rw [sk, plF, if_pos c]
      exact ⟨rfl, o.1.1, o.2⟩
    · obtain ⟨k, hk⟩ : ∃ k : Nat, x = ((x0 + k : Nat) : Int) := ⟨(x - x0).toNat, by omega⟩
      have sk := plN_skip (l := l) (w := w) (t := t) (D := D) (x0 := x0) k (N - (x0 + k)) (fun z a b => h6 z a (by omega))
      rw [show k + (N - (x0 + k)) = N - x0 by omega] at sk
      have o := mgo_ok (l := l) hK k (by omega)
      have o1 := mgo_ok (l := l) hK (k + 1) (by omega)
      have g := gb_many (T := T) (t := x) hk (by omega) hC hR h13 hK (hM (by omega))
      have hC1 : CR β L (mgo l D x0 (k + 1)) l := hC.wf o1.2
      have g2 : gbS β L T x 10 2 = x := by
        have := g.1
        have h := g.2.1.1
        by_cases e : gbS β L T x 10 2 < x
        · unfold gbS at e ⊢
          by_cases e2 : gbL β L x 12 T 10 2 ≤ x
          · exact runToS_le e2
          · rw [runToS_id (by omega)] at e; omega
        · omega
      obtain ⟨s1, s2, s3, s4, s5⟩ := plan_step (L := L) (T := gbS β L T x) (D := mgo l D x0 (k + 1)) (w := w) (x := x0 + k) (by omega) hw hC1 (by rw [hk] at g; rw [hk]; exact g) (by rw [g2]; exact hk) (by have := o1.1; rw [show ((x0 + (k + 1) : Nat) : Int) = ((x0 + k : Nat) : Int) + 1 by omega] at this; exact this)
      have eg : gdS (mgo l D x0 k) l ((x0 + k : Nat) : Int) = mgo l D x0 (k + 1) := rfl
      have e29 : mgo l D x0 k 29 0 = n := by
        rw [o.2.2 0 (by omega), ← hn]
        exact hC.1.1.symm
      have ow := owed_eq s5 n (by omega)
      have hW : WF D (plH (mgo l D x0 (k + 1)) l w ((x0 + k : Nat) : Int)) := o1.2.tr s4
      have hcond : y ≤ ((x0 + k : Nat) : Int) ∧ (((x0 + k : Nat) : Int) - y) % e = 0 := ⟨by omega, by rw [← hk]; exact h5⟩
      rw [sk, plF, if_neg c, show N - (x0 + k) = (N - (x0 + k + 1)) + 1 by omega, plN, if_pos hcond, eg, e29, Int.toNat_natCast]
      have et : plT β L T w x = distS β L (gbS β L T x) (w * 10000) (-1) := rfl
      rw [et, ow]
      by_cases c2 : owM (plH (mgo l D x0 (k + 1)) l w ((x0 + k : Nat) : Int)) n = 0
      · rw [if_pos c2, if_pos c2]
        refine ⟨?_, s3.1, hW⟩
        show (if t = 0 then x else _) = (if t = 0 then ((x0 + k : Nat) : Int) else _)
        rw [s2, hk]
      · rw [if_neg c2, if_neg c2]
        have i := plan_sim (t := t) hN hn hR h13 hw hy he f (x + e) (x0 + k + 1) (distS β L (gbS β L T x) (w * 10000) (-1)) (plH (mgo l D x0 (k + 1)) l w ((x0 + k : Nat) : Int)) (by omega) (by omega) (by omega) (by omega) (by rw [show x + e - y = (x - y) + e by omega, Int.add_emod_right]; exact h5) (fun z a b hz => by
          have d1 : (((z : Int) - y) - (x - y)) % e = 0 := by rw [Int.sub_emod, hz.2, h5]; simp
          rw [show (z : Int) - y - (x - y) = (z : Int) - x by omega, Int.emod_eq_of_lt (by omega) (by omega)] at d1
          omega) (hC1.wf s4) (by rw [show ((x0 + k + 1 : Nat) : Int) = ((x0 + k : Nat) : Int) + 1 by omega]; exact s3) (fun _ => by
          have := s1.next (hC1.wf s4)
          rw [show ((x0 + k + 1 : Nat) : Int) = ((x0 + k : Nat) : Int) + 1 by omega]
          exact this)
        exact ⟨i.1, i.2.1, hW.tr i.2.2⟩
theorem plF_inv {β L : PS} {n : Nat} {w e t : Int} (hr : rtOK β) (hn : (β 12 0).toNat ≤ 8) (hn2 : (β 13 0).toNat ≤ 12) (hd : ∀ p, β 8 p ≤ 299) : ∀ (f : Nat) (x : Int) (T : PS), InvS kC T → CB β T → InvS kC (plF β L n w e t f x T).2
  | 0, x, T, h1, h2 => h1
  | f + 1, x, T, h1, h2 => by
    unfold plF
    split
    · exact h1
    · rename_i c
      obtain ⟨g1, g2⟩ := gbS_inv (L := L) hr hn hn2 hd h1 h2 (show x ≤ 299 by omega)
      obtain ⟨j1, j2, j3, j4⟩ := distS_inv (β := β) (L := L) (a := w * 10000) (c := -1) g1 hn
      have cb : CB β (plT β L T w x) := fun d hd => by
        have := g2 d hd
        unfold plT
        rw [j3]
        exact Int.le_trans (j2 d) this
      split
      · exact j1
      · exact plF_inv hr hn hn2 hd f _ _ j1 cb
theorem s_plan : Sim_plan := by
  intro N hN l w y e t hl hw hy he ht
  refine simQ fun m S hI hA hS hO => ?_
  unfold planR planM nplanR nplanS
  by_cases c1 : ¬ ((0 ≤ l ∧ l ≤ 1) ∧ ((0 ≤ y ∧ y ≤ 299) ∧ 1 ≤ w ∧ w ≤ 9999) ∧ (1 ≤ e ∧ e ≤ 60) ∧ (0 ≤ t ∧ t ≤ 1))
  · have c2 : ¬ ((0 ≤ l ∧ l ≤ 1) ∧ (1 ≤ w ∧ w ≤ 9999) ∧ (0 ≤ y ∧ y ≤ 299) ∧ (1 ≤ e ∧ e ≤ 60) ∧ (0 ≤ t ∧ t ≤ 1)) := by omega
    simp only [if_pos c1, if_pos c2]; exact ⟨hI, Core.rf, trivial, hS, WG.rf⟩
  have c2 : ¬ ¬ ((0 ≤ l ∧ l ≤ 1) ∧ (1 ≤ w ∧ w ≤ 9999) ∧ (0 ≤ y ∧ y ≤ 299) ∧ (1 ≤ e ∧ e ≤ 60) ∧ (0 ≤ t ∧ t ≤ 1)) := by omega
  simp only [if_neg c1, if_neg c2]
  have hl2 : l.toNat < 2 := by omega
  have hC := st_CR (j := 0) hI hA hl2
  obtain ⟨z1, z2, z3, z4, z5⟩ := st_hy (j := 0) (ln := l.toNat) hI
  have hI3 : Inv (stM m 0 0 l.toNat) := hI.stM
  have b0 : 0 ≤ stM m 0 0 l.toNat 1 (2 + 0) 0 1 ∧ stM m 0 0 l.toNat 1 (2 + 0) 0 1 ≤ 8 := hI3 1 (2 + 0) 0 1
  have b1 : 0 ≤ stM m 0 0 l.toNat 1 (2 + 0) 0 3 ∧ stM m 0 0 l.toNat 1 (2 + 0) 0 3 ≤ 12 := hI3 1 (2 + 0) 0 3
  obtain ⟨n, hn⟩ : ∃ n : Nat, stM m 0 0 l.toNat 1 (2 + 0) 0 1 = n := ⟨(stM m 0 0 l.toNat 1 (2 + 0) 0 1).toNat, by omega⟩
  have hCb : CR (bk (stM m 0 0 l.toNat) (2 + 0)) (lw (stM m 0 0 l.toNat) (16 + 0)) (begS S) l.toNat := hC.wf (begL_wf 8)
  have p := plan_sim (L := lw (stM m 0 0 l.toNat) (16 + 0)) (l := l.toNat) (n := n) (w := w) (y := y) (e := e) (t := t) hN hn z1 z2 (by omega) (by omega) (by omega) 301 y 0 (stS (bk (stM m 0 0 l.toNat) (2 + 0)) (fun k => (stM m 0 0 l.toNat) k 0 0)) (begS S) (by omega) (by omega) (by omega) (by omega) (by rw [Int.sub_self]; rfl) (fun z _ a hz => by omega) hCb (MK.beg hS hO) (fun _ => MR.beg hC z3 z4 z5 z1)
  rw [hn, Int.toNat_natCast]
  rw [Nat.sub_zero] at p
  have i1 := plF_inv (L := lw (stM m 0 0 l.toNat) (16 + 0)) (n := n) (w := w) (e := e) (t := t) (rt_of hI3 (2 + 0)) (n8_of hI3 (2 + 0)) (show (stM m 0 0 l.toNat 1 (2 + 0) 0 3).toNat ≤ 12 by omega) (fun p => (hI3 7 (2 + 0) p 0).2) 301 y _ (st_inv hI).1 (st_inv hI).2
  exact ⟨hI3.wrC i1, fun k j i h => (wrC_core h).trans (stM_core h), p.1, p.2.1, ((begL_wf 8).tr p.2.2).wg⟩
