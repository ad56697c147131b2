/-- given: nothing grows, the day stays -/
def GI (S S' : PS) : Prop := InvS kC S' ∧ (∀ x, S' 11 x + S' 12 x ≤ S 11 x + S 12 x) ∧ S' 10 = S 10
theorem GI.rf {S : PS} (h : InvS kC S) : GI S S := ⟨h, fun _ => Int.le_refl _, rfl⟩
theorem GI.tr {S T U : PS} (h1 : GI S T) (h2 : GI T U) : GI S U := ⟨h2.1, fun x => Int.le_trans (h2.2.1 x) (h1.2.1 x), h2.2.2.trans h1.2.2⟩
theorem giveS_12 {L S : PS} (d : Nat) (a : Int) (x : Nat) : (giveS L S d a 11 x + giveS L S d a 12 x = S 11 x + S 12 x - (if x = d then giveR S d a else 0)) := by
  unfold giveS giveR
  split
  · split <;> omega
  · rename_i hg
    have h1 : ∀ (ts tr : Int) (k : Nat), (k = 11 ∨ k = 12) → giveP S d ts tr (giveW S d (giveT S d ts tr)) k x = giveT S d ts tr k x := by
      intro ts tr k hk
      unfold giveP giveW
      rcases hk with rfl | rfl <;> (split <;> (try rw [upT_k (by decide)]) <;> split <;> (try rw [upT_k (by decide)]) <;> try rfl)
    rw [h1 _ _ 11 (Or.inl rfl), h1 _ _ 12 (Or.inr rfl)]
    unfold giveT
    by_cases hx : x = d
    · subst hx
      simp [upT]
      omega
    · simp [upT, hx]
theorem giveS_GI {L S : PS} (d : Nat) (a : Int) (h : InvS kC S) : GI S (giveS L S d a) := by
  refine ⟨giveS_inv d a h, fun x => ?_, giveS_k (by decide)⟩
  rw [giveS_12]
  have := giveR_bd d a h
  split <;> omega
theorem sh1_GI {L S : PS} {fr : Nat} {a al : Int} (h : InvS kC S) : ∀ k : Nat, GI S (sh1 L S fr a al k).1
  | 0 => GI.rf h
  | k + 1 => (sh1_GI h k).tr (giveS_GI _ _ (sh1_GI h k).1)
theorem sh2_GI {L S : PS} {fr : Nat} {a : Int} (h : InvS kC S) : ∀ k : Nat, GI S (sh2 L S fr a k).1
  | 0 => GI.rf h
  | k + 1 => (sh2_GI h k).tr (giveS_GI _ _ (sh2_GI h k).1)
theorem shareS_GI {L S : PS} {fr en : Nat} {a : Int} (h : InvS kC S) : GI S (shareS L S fr en a).1 := by
  unfold shareS
  simp only
  split
  · exact (sh1_GI h _).tr (sh2_GI (sh1_GI h _).1 _)
  · exact sh2_GI h _
theorem dsL_GI {β L : PS} {n : Nat} : ∀ (f fr : Nat) (S : PS) (ov : Int), InvS kC S → GI S (dsL β L n f fr S ov).1
  | 0, _, S, _, h => GI.rf h
  | f + 1, fr, S, ov, h => by
    unfold dsL
    split
    · exact (shareS_GI h).tr (dsL_GI f _ _ _ (shareS_GI h).1)
    · exact GI.rf h
theorem dist0_GI {β S : PS} (h : InvS kC S) : GI S (dist0 β S) := ⟨dist0_inv h, fun x => by rw [dist0_k (by decide), dist0_k (by decide)]; exact Int.le_refl _, dist0_k (by decide)⟩
theorem set17_GI {S : PS} {g : Nat → Int} (h : InvS kC S) (hg : ∀ x, 0 ≤ g x ∧ g x ≤ 7) : GI S (setT S 17 g) := ⟨h.set hg, fun x => by rw [setT_d (by decide), setT_d (by decide)]; exact Int.le_refl _, setT_d (by decide)⟩
theorem dist3_GI {β L S : PS} {a c : Int} (h : InvS kC S) (hn : (β 12 0).toNat ≤ 8) : GI S (tl40 β L (dist1 β L S a c).1 (dist1 β L S a c).2).1 := by
  have h1 : GI S (dist1 β L S a c).1 := by
    unfold dist1
    split
    · exact dist0_GI h
    · exact (dist0_GI h).tr (giveS_GI _ _ (dist0_GI h).1)
  unfold tl40
  split
  · have h2 := set17_GI (g := (ordS β L (dist1 β L S a c).1).2) h1.1 (ordL_rg (fun x => h1.1 17 x rfl) _ hn)
    exact (h1.tr h2).tr (dsL_GI _ _ _ _ h2.1)
  · exact h1
theorem distS_inv {β L S : PS} {a c : Int} (h : InvS kC S) (hn : (β 12 0).toNat ≤ 8) : InvS kC (distS β L S a c) ∧ (∀ x, distS β L S a c 11 x + distS β L S a c 12 x ≤ S 11 x + S 12 x) ∧ distS β L S a c 10 2 = S 10 2 ∧ distS β L S a c 10 3 = S 10 3 := by
  have g := dist3_GI (L := L) (a := a) (c := c) h hn
  rw [distS_40]
  refine ⟨g.1.up trivial, fun x => ?_, ?_, ?_⟩
  · rw [upT_k (by decide), upT_k (by decide)]; exact g.2.1 x
  · rw [upT_x (by decide), g.2.2]
  · rw [upT_x (by decide), g.2.2]
theorem tak0_inv {β S : PS} {p : Nat} (hS : InvS kC S) (hr : rtOK β) (hB : CB β S) (hd : β 8 p ≤ 299) (hp : p < 12) : InvS kC (tak0 β S p) ∧ CB β (tak0 β S p) := by
  obtain ⟨i1, i2⟩ := runToS_inv hS hr hB hd
  refine ⟨i1.up (by show -1 ≤ _ ∧ _ ≤ (11 : Int); omega), fun d hd => ?_⟩
  have := i2 d hd
  unfold tak0
  rw [upT_k (by decide), upT_k (by decide), upT_x (by decide)]
  exact this
theorem takeS_inv {β L S : PS} {p : Nat} (hS : InvS kC S) (hr : rtOK β) (hB : CB β S) (hn : (β 12 0).toNat ≤ 8) (hd : β 8 p ≤ 299) (hp : p < 12) : InvS kC (takeS β L S p) ∧ CB β (takeS β L S p) := by
  obtain ⟨i1, i2⟩ := tak0_inv hS hr hB hd hp
  obtain ⟨j1, j2, j3, j4⟩ := distS_inv (β := β) (L := L) (a := β 9 p * 10000) (c := chS β L (tak0 β S p) p) i1 hn
  refine ⟨j1, fun d hd => ?_⟩
  have := i2 d hd
  unfold takeS
  rw [j3]
  exact Int.le_trans (j2 d) this
theorem nextL_rg {β S : PS} {tg : Int} : ∀ n : Nat, -1 ≤ (nextL β S tg n).1 ∧ (nextL β S tg n).1 < n
  | 0 => by unfold nextL; omega
  | n + 1 => by
    have := nextL_rg (β := β) (S := S) (tg := tg) n
    unfold nextL
    split <;> (try simp only) <;> omega
theorem chS_rg {β L S : PS} {p : Nat} (h1 : -1 ≤ β 10 p ∧ β 10 p ≤ 7) (h2 : -1 ≤ β 11 p ∧ β 11 p ≤ 7) : -1 ≤ chS β L S p ∧ chS β L S p ≤ 7 := by
  unfold chS
  split
  · exact h1
  · split
    · exact h2
    · decide
theorem rt_of {m : Mem} (hI : Inv m) (b : Nat) : rtOK (bk m b) := fun d => hI 6 b d 4
theorem n8_of {m : Mem} (hI : Inv m) (b : Nat) : (bk m b 12 0).toNat ≤ 8 := by
  have h : 0 ≤ m 1 b 0 1 ∧ m 1 b 0 1 ≤ 8 := hI 1 b 0 1
  show (m 1 b 0 1).toNat ≤ 8
  omega
set_option maxHeartbeats 4000000 in
set_option maxRecDepth 100000 in
theorem c_take (E : Ev) (m : Mem) (j : Nat) (S : PS) (p : Nat) (hj : j < 6) (hI : Inv m) (hS : InvS kC S) (hp12 : p < 12) (hB : CB (bk m (2 + j)) S) : CT E 5 mX1_take [rf E 10 j 0, .int (iI (p : Int))] (hp E (wrC m j S)) (none) (hp E (wrC m j (takeS (bk m (2 + j)) (lw m (16 + j)) S p))) := by
  refine CT.go okX1_take (Nat.le_of_ble_eq_true rfl) ?_
  show T E 5 mX1_take 0 [some (rf E 10 j 0), some (.int (iI (p : Int))), none] [] (hp E (wrC m j S)) _
  have z1 : 0 ≤ m 7 (2 + j) p 0 ∧ m 7 (2 + j) p 0 ≤ 299 := hI 7 (2 + j) p 0
  have z2 : 0 ≤ m 7 (2 + j) p 1 ∧ m 7 (2 + j) p 1 ≤ 9999 := hI 7 (2 + j) p 1
  have hi0 := tak0_inv (β := (bk m (2 + j))) (p := p) hS (rt_of hI _) hB z1.2 hp12
  have hch := chS_rg (β := (bk m (2 + j))) (L := (lw m (16 + j))) (S := tak0 (bk m (2 + j)) S p) (p := p) (hI 7 (2 + j) p 2) (hI 7 (2 + j) p 3)
  refine T.aload_n dX1_take_0 rfl ?_
  refine T.mget (v := rf E 1 (2 + j) 0) dX1_take_1 fo_X1_12 (ok10 (by omega)) rfl rfl ?_
  refine T.mget (v := rf E 3 (2 + j) 0) dX1_take_4 fo_X1_114 (ok1 (by omega)) rfl rfl ?_
  refine T.iload_n dX1_take_7 rfl ?_
  refine T.mald (C := RX4) (x := p) dX1_take_8 (ok3 (by omega)) (fun _ => rfl) rfl rfl (by omega) ?_
  refine T.astore_n (ls' := [some (rf E 10 j 0), some (.int (iI (p : Int))), some (rf E 7 (2 + j) p)]) dX1_take_9 rfl ?_
  refine T.aload_n dX1_take_10 rfl ?_
  refine T.aload_n dX1_take_11 rfl ?_
  refine T.gI (z := m 7 (2 + j) p 0) dX1_take_12 fo_X1_118 (ok7 (by omega) (by omega)) rfl rfl rfl ?_
  have q1 : 0 ≤ m 7 (2 + j) p 0 ∧ m 7 (2 + j) p 0 ≤ 299 := hI 7 (2 + j) p 0
  refine T.cV0 (As := [.int (iI (m 7 (2 + j) p 0))]) (st := []) dX1_take_15 lk_X1_101 (c_runTo E m j S (m 7 (2 + j) p 0) hj hI hS (rt_of hI _) hB (by omega)) (ok10 (by omega)) rfl rfl (by decide) rfl rfl (Nat.le_of_ble_eq_true rfl) ?_
  refine T.aload_n dX1_take_18 rfl ?_
  refine T.iload_n dX1_take_19 rfl ?_
  refine T.cputI dX1_take_20 fp_X1_29 rfl (ok10 (by omega)) rfl rfl (Nat.le_of_ble_eq_true rfl) ?_
  refine T.aload_n dX1_take_23 rfl ?_
  refine T.aload_n dX1_take_24 rfl ?_
  refine T.gI (z := m 7 (2 + j) p 1) dX1_take_25 fo_X1_121 (ok7 (by omega) (by omega)) rfl rfl rfl ?_
  have q2 : 0 ≤ m 7 (2 + j) p 1 ∧ m 7 (2 + j) p 1 ≤ 9999 := hI 7 (2 + j) p 1
  refine T.i2l dX1_take_28 (by unfold rg; omega) ?_
  refine T.ldc2 dX1_take_29 kl_X1_89 ?_
  refine T.lmul dX1_take_32 ?_
  refine T.aload_n dX1_take_33 rfl ?_
  refine T.aload_n dX1_take_34 rfl ?_
  refine T.cV1 (As := [rf E 7 (2 + j) p]) (st := [.long (lI ((m 7 (2 + j) p 1) * 10000)), rf E 10 j 0]) dX1_take_35 lk_X1_122 (c_chosen E m j (tak0 (bk m (2 + j)) S p) p hj hI hi0.1 hp12) (ok10 (by omega)) rfl rfl (by decide) rfl rfl (Nat.le_of_ble_eq_true rfl) ?_
  refine T.cV0 (As := [.long (lI ((m 7 (2 + j) p 1) * 10000)), .int (iI (chS (bk m (2 + j)) (lw m (16 + j)) (tak0 (bk m (2 + j)) S p) p))]) (st := []) dX1_take_38 lk_X1_126 (c_dist E m j (tak0 (bk m (2 + j)) S p) ((m 7 (2 + j) p 1) * 10000) (chS (bk m (2 + j)) (lw m (16 + j)) (tak0 (bk m (2 + j)) S p) p) hj hI hi0.1 (by omega) hch) (ok10 (by omega)) rfl rfl (by decide) rfl rfl (Nat.le_of_ble_eq_true rfl) ?_
  exact T.vret dX1_take_41 ⟨rfl, rfl⟩
theorem n12_of {m : Mem} (hI : Inv m) (b : Nat) : (bk m b 13 0).toNat ≤ 12 := by
  have h : 0 ≤ m 1 b 0 3 ∧ m 1 b 0 3 ≤ 12 := hI 1 b 0 3
  show (m 1 b 0 3).toNat ≤ 12
  omega
set_option maxHeartbeats 4000000 in
set_option maxRecDepth 100000 in
theorem c_gb_loop (E : Ev) (m : Mem) (j : Nat) (tg : Int) (hj : j < 6) (hI : Inv m) (htg : -1 ≤ tg ∧ tg ≤ 299) : ∀ (k : Nat) (i : Nat) (S : PS), 12 - i = k → i ≤ 12 → InvS kC S → CB (bk m (2 + j)) S → T E 6 mX1_goBehind 8 [some (rf E 10 j 0), some (.int (iI tg)), some (.int (iI (nextS (bk m (2 + j)) S tg))), some (.int (iI (i : Int)))] [] (hp E (wrC m j S)) (fun r' h' => r' = none ∧ h' = hp E (wrC m j (runToS (bk m (2 + j)) (gbL (bk m (2 + j)) (lw m (16 + j)) tg (12 - i) S) tg))) := by
  intro k
  induction k using Nat.strongRecOn with
  | ind k ih =>
    intro i S hk hi12 hS hB
    have hnx : -1 ≤ nextS (bk m (2 + j)) S tg ∧ nextS (bk m (2 + j)) S tg < (((bk m (2 + j)) 13 0).toNat : Int) := nextL_rg _
    have hn13 := n12_of hI (2 + j)
    refine T.iload_n dX1_goBehind_8 rfl ?_
    refine T.bipush dX1_goBehind_9 ?_
    refine T.icmp_ge 35 dX1_goBehind_11 (by unfold rg; omega) (by unfold rg; omega) (fun c1 => ?_) (fun c1 => ?_)
    · refine T.aload_n dX1_goBehind_35 rfl ?_
      refine T.iload_n dX1_goBehind_36 rfl ?_
      refine T.cV0 (As := [.int (iI tg)]) (st := []) dX1_goBehind_37 lk_X1_101 (c_runTo E m j S tg hj hI hS (rt_of hI _) hB htg) (ok10 (by omega)) rfl rfl (by decide) rfl rfl (Nat.le_of_ble_eq_true rfl) ?_
      rw [show gbL (bk m (2 + j)) (lw m (16 + j)) tg (12 - i) S = S from by first | (rw [show 12 - i = 0 from by omega]; rfl) | (obtain ⟨f, hf⟩ : ∃ f, 12 - i = f + 1 := ⟨11 - i, by omega⟩; rw [hf]; unfold gbL; rw [if_neg (by omega)])]
      exact T.vret dX1_goBehind_40 ⟨rfl, rfl⟩
    · refine T.iload_n dX1_goBehind_14 rfl ?_
      refine T.if_lt 35 dX1_goBehind_15 (by unfold rg; omega) (fun c2 => ?_) (fun c2 => ?_)
      · refine T.aload_n dX1_goBehind_35 rfl ?_
        refine T.iload_n dX1_goBehind_36 rfl ?_
        refine T.cV0 (As := [.int (iI tg)]) (st := []) dX1_goBehind_37 lk_X1_101 (c_runTo E m j S tg hj hI hS (rt_of hI _) hB htg) (ok10 (by omega)) rfl rfl (by decide) rfl rfl (Nat.le_of_ble_eq_true rfl) ?_
        rw [show gbL (bk m (2 + j)) (lw m (16 + j)) tg (12 - i) S = S from by first | (rw [show 12 - i = 0 from by omega]; rfl) | (obtain ⟨f, hf⟩ : ∃ f, 12 - i = f + 1 := ⟨11 - i, by omega⟩; rw [hf]; unfold gbL; rw [if_neg (by omega)])]
        exact T.vret dX1_goBehind_40 ⟨rfl, rfl⟩
      · refine T.aload_n dX1_goBehind_18 rfl ?_
        refine T.iload_n dX1_goBehind_19 rfl ?_
        refine T.cV0 (As := [.int (iI (nextS (bk m (2 + j)) S tg))]) (st := []) dX1_goBehind_20 lk_X1_108 (by have h0 := c_take E m j S (nextS (bk m (2 + j)) S tg).toNat hj hI hS (by omega) hB; rw [show (((nextS (bk m (2 + j)) S tg).toNat : Nat) : Int) = nextS (bk m (2 + j)) S tg from by omega] at h0; exact h0) (ok10 (by omega)) rfl rfl (by decide) rfl rfl (Nat.le_of_ble_eq_true rfl) ?_
        have hi1 := takeS_inv (β := (bk m (2 + j))) (L := (lw m (16 + j))) (p := (nextS (bk m (2 + j)) S tg).toNat) hS (rt_of hI _) hB (n8_of hI _) (hI 7 (2 + j) _ 0).2 (by omega)
        refine T.aload_n dX1_goBehind_23 rfl ?_
        refine T.iload_n dX1_goBehind_24 rfl ?_
        refine T.cV1 (As := [.int (iI tg)]) (st := []) dX1_goBehind_25 lk_X1_104 (c_next E m j (takeS (bk m (2 + j)) (lw m (16 + j)) S (nextS (bk m (2 + j)) S tg).toNat) tg hj hI hi1.1 htg) (ok10 (by omega)) rfl rfl (by decide) rfl rfl (Nat.le_of_ble_eq_true rfl) ?_
        refine T.istore_n (ls' := [some (rf E 10 j 0), some (.int (iI tg)), some (.int (iI (nextS (bk m (2 + j)) (takeS (bk m (2 + j)) (lw m (16 + j)) S (nextS (bk m (2 + j)) S tg).toNat) tg))), some (.int (iI (i : Int)))]) dX1_goBehind_28 rfl ?_
        refine T.iinc (ls' := [some (rf E 10 j 0), some (.int (iI tg)), some (.int (iI (nextS (bk m (2 + j)) (takeS (bk m (2 + j)) (lw m (16 + j)) S (nextS (bk m (2 + j)) S tg).toNat) tg))), some (.int (iI ((i : Int) + 1)))]) dX1_goBehind_29 rfl rfl ?_
        refine T.goto 8 dX1_goBehind_32 ?_
        have hg : gbL (bk m (2 + j)) (lw m (16 + j)) tg (12 - i) S = gbL (bk m (2 + j)) (lw m (16 + j)) tg (12 - (i + 1)) (takeS (bk m (2 + j)) (lw m (16 + j)) S (nextS (bk m (2 + j)) S tg).toNat) := by
          rw [show 12 - i = (12 - (i + 1)) + 1 from by omega]
          exact if_pos (by omega)
        rw [hg]
        exact ih (12 - (i + 1)) (by omega) (i + 1) (takeS (bk m (2 + j)) (lw m (16 + j)) S (nextS (bk m (2 + j)) S tg).toNat) rfl (by omega) hi1.1 hi1.2
set_option maxHeartbeats 4000000 in
set_option maxRecDepth 100000 in
theorem c_goBehind (E : Ev) (m : Mem) (j : Nat) (S : PS) (tg : Int) (hj : j < 6) (hI : Inv m) (hS : InvS kC S) (hB : CB (bk m (2 + j)) S) (htg : -1 ≤ tg ∧ tg ≤ 299) : CT E 6 mX1_goBehind [rf E 10 j 0, .int (iI tg)] (hp E (wrC m j S)) (none) (hp E (wrC m j (gbS (bk m (2 + j)) (lw m (16 + j)) S tg))) := by
  refine CT.go okX1_goBehind (Nat.le_of_ble_eq_true rfl) ?_
  show T E 6 mX1_goBehind 0 [some (rf E 10 j 0), some (.int (iI tg)), none, none] [] (hp E (wrC m j S)) _
  refine T.aload_n dX1_goBehind_0 rfl ?_
  refine T.iload_n dX1_goBehind_1 rfl ?_
  refine T.cV1 (As := [.int (iI tg)]) (st := []) dX1_goBehind_2 lk_X1_104 (c_next E m j S tg hj hI hS htg) (ok10 (by omega)) rfl rfl (by decide) rfl rfl (Nat.le_of_ble_eq_true rfl) ?_
  refine T.istore_n (ls' := [some (rf E 10 j 0), some (.int (iI tg)), some (.int (iI (nextS (bk m (2 + j)) S tg))), none]) dX1_goBehind_5 rfl ?_
  refine T.iconst dX1_goBehind_6 ?_
  refine T.istore_n (ls' := [some (rf E 10 j 0), some (.int (iI tg)), some (.int (iI (nextS (bk m (2 + j)) S tg))), some (.int (iI 0))]) dX1_goBehind_7 rfl ?_
  exact c_gb_loop E m j tg hj hI htg _ 0 S rfl (by omega) hS hB
theorem gbL_inv {β L : PS} {tg : Int} (hr : rtOK β) (hn : (β 12 0).toNat ≤ 8) (hn2 : (β 13 0).toNat ≤ 12) (hd : ∀ p, β 8 p ≤ 299) : ∀ (f : Nat) (S : PS), InvS kC S → CB β S → InvS kC (gbL β L tg f S) ∧ CB β (gbL β L tg f S)
  | 0, S, hS, hB => ⟨hS, hB⟩
  | f + 1, S, hS, hB => by
    unfold gbL
    split
    · have := nextL_rg (β := β) (S := S) (tg := tg) (β 13 0).toNat
      have h2 : nextS β S tg = (nextL β S tg (β 13 0).toNat).1 := rfl
      obtain ⟨i1, i2⟩ := takeS_inv (β := β) (L := L) (p := (nextS β S tg).toNat) hS hr hB hn (hd _) (by omega)
      exact gbL_inv hr hn hn2 hd f _ i1 i2
    · exact ⟨hS, hB⟩
theorem gbS_inv {β L S : PS} {tg : Int} (hr : rtOK β) (hn : (β 12 0).toNat ≤ 8) (hn2 : (β 13 0).toNat ≤ 12) (hd : ∀ p, β 8 p ≤ 299) (hS : InvS kC S) (hB : CB β S) (htg : tg ≤ 299) : InvS kC (gbS β L S tg) ∧ CB β (gbS β L S tg) := by
  obtain ⟨i1, i2⟩ := gbL_inv (L := L) (tg := tg) hr hn hn2 hd 12 S hS hB
  exact runToS_inv i1 hr i2 htg
theorem gbm_inv {m : Mem} {b q : Nat} {S : PS} {tg : Int} (hI : Inv m) (hS : InvS kC S) (hB : CB (bk m b) S) (htg : tg ≤ 299) : InvS kC (gbS (bk m b) (lw m q) S tg) ∧ CB (bk m b) (gbS (bk m b) (lw m q) S tg) := gbS_inv (rt_of hI b) (n8_of hI b) (n12_of hI b) (fun p => (hI 7 b p 0).2) hS hB htg
set_option maxHeartbeats 4000000 in
set_option maxRecDepth 100000 in
theorem c_goAhead (E : Ev) (m : Mem) (j : Nat) (S : PS) (tg : Int) (hj : j < 6) (hI : Inv m) (hS : InvS kC S) (hB : CB (bk m (2 + j)) S) (htg : 0 ≤ tg ∧ tg ≤ 299) : CT E 7 mX1_goAheadOf [rf E 10 j 0, .int (iI tg)] (hp E (wrC m j S)) (none) (hp E (wrC m j (runToS (bk m (2 + j)) (gbS (bk m (2 + j)) (lw m (16 + j)) S (tg - 1)) tg))) := by
  refine CT.go okX1_goAheadOf (Nat.le_of_ble_eq_true rfl) ?_
  show T E 7 mX1_goAheadOf 0 [some (rf E 10 j 0), some (.int (iI tg))] [] (hp E (wrC m j S)) _
  have hi1 := gbm_inv (b := 2 + j) (q := 16 + j) (tg := tg - 1) hI hS hB (by omega)
  refine T.aload_n dX1_goAheadOf_0 rfl ?_
  refine T.iload_n dX1_goAheadOf_1 rfl ?_
  refine T.iconst dX1_goAheadOf_2 ?_
  refine T.isub dX1_goAheadOf_3 ?_
  refine T.cV0 (As := [.int (iI (tg - 1))]) (st := []) dX1_goAheadOf_4 lk_X1_97 (c_goBehind E m j S (tg - 1) hj hI hS hB (by omega)) (ok10 (by omega)) rfl rfl (by decide) rfl rfl (Nat.le_of_ble_eq_true rfl) ?_
  refine T.aload_n dX1_goAheadOf_7 rfl ?_
  refine T.iload_n dX1_goAheadOf_8 rfl ?_
  refine T.cV0 (As := [.int (iI tg)]) (st := []) dX1_goAheadOf_9 lk_X1_101 (c_runTo E m j (gbS (bk m (2 + j)) (lw m (16 + j)) S (tg - 1)) tg hj hI hi1.1 (rt_of hI _) hi1.2 (by omega)) (ok10 (by omega)) rfl rfl (by decide) rfl rfl (Nat.le_of_ble_eq_true rfl) ?_
  exact T.vret dX1_goAheadOf_12 ⟨rfl, rfl⟩
set_option maxHeartbeats 4000000 in
set_option maxRecDepth 100000 in
theorem c_tu_loop (E : Ev) (m : Mem) (j p : Nat) (hj : j < 6) (hI : Inv m) (hp12 : p < 12) : ∀ (k : Nat) (i : Nat) (S : PS) (nx : Int), 12 - i = k → i ≤ 12 → InvS kC S → CB (bk m (2 + j)) S → (-1 ≤ nx ∧ nx < 12) → T E 6 mX1_takeUpTo 10 [some (rf E 10 j 0), some (.int (iI (p : Int))), some (.int (iI nx)), some (.int (iI (i : Int)))] [] (hp E (wrC m j S)) (fun r' h' => r' = none ∧ h' = hp E (wrC m j (tuL (bk m (2 + j)) (lw m (16 + j)) p (12 - i) S nx))) := by
  intro k
  induction k using Nat.strongRecOn with
  | ind k ih =>
    intro i S nx hk hi12 hS hB hnx
    refine T.iload_n dX1_takeUpTo_10 rfl ?_
    refine T.bipush dX1_takeUpTo_11 ?_
    refine T.icmp_ge 48 dX1_takeUpTo_13 (by unfold rg; omega) (by unfold rg; omega) (fun c1 => ?_) (fun c1 => ?_)
    · rw [show tuL (bk m (2 + j)) (lw m (16 + j)) p (12 - i) S nx = S from by first | (rw [show 12 - i = 0 from by omega]; rfl) | (obtain ⟨f, hf⟩ : ∃ f, 12 - i = f + 1 := ⟨11 - i, by omega⟩; rw [hf]; exact if_neg (by omega))]
      exact T.vret dX1_takeUpTo_48 ⟨rfl, rfl⟩
    · refine T.iload_n dX1_takeUpTo_16 rfl ?_
      refine T.if_lt 48 dX1_takeUpTo_17 (by unfold rg; omega) (fun c2 => ?_) (fun c2 => ?_)
      · rw [show tuL (bk m (2 + j)) (lw m (16 + j)) p (12 - i) S nx = S from by first | (rw [show 12 - i = 0 from by omega]; rfl) | (obtain ⟨f, hf⟩ : ∃ f, 12 - i = f + 1 := ⟨11 - i, by omega⟩; rw [hf]; exact if_neg (by omega))]
        exact T.vret dX1_takeUpTo_48 ⟨rfl, rfl⟩
      · refine T.aload_n dX1_takeUpTo_20 rfl ?_
        refine T.iload_n dX1_takeUpTo_21 rfl ?_
        refine T.cV0 (As := [.int (iI nx)]) (st := []) dX1_takeUpTo_22 lk_X1_108 (by have h0 := c_take E m j S nx.toNat hj hI hS (by omega) hB; rw [show ((nx.toNat : Nat) : Int) = nx from by omega] at h0; exact h0) (ok10 (by omega)) rfl rfl (by decide) rfl rfl (Nat.le_of_ble_eq_true rfl) ?_
        have hi1 := takeS_inv (β := (bk m (2 + j))) (L := (lw m (16 + j))) (p := nx.toNat) hS (rt_of hI _) hB (n8_of hI _) (hI 7 (2 + j) _ 0).2 (by omega)
        have hn13 := n12_of hI (2 + j)
        have hnx2 : -1 ≤ nextS (bk m (2 + j)) (takeS (bk m (2 + j)) (lw m (16 + j)) S nx.toNat) 299 ∧ nextS (bk m (2 + j)) (takeS (bk m (2 + j)) (lw m (16 + j)) S nx.toNat) 299 < (((bk m (2 + j)) 13 0).toNat : Int) := nextL_rg _
        refine T.iload_n dX1_takeUpTo_25 rfl ?_
        refine T.iload_n dX1_takeUpTo_26 rfl ?_
        refine T.icmp_ne 34 dX1_takeUpTo_27 (by unfold rg; omega) (by unfold rg; omega) (fun c3 => ?_) (fun c3 => ?_)
        · refine T.aload_n dX1_takeUpTo_34 rfl ?_
          refine T.sipush dX1_takeUpTo_35 ?_
          refine T.cV1 (As := [.int (iI 299)]) (st := []) dX1_takeUpTo_38 lk_X1_104 (c_next E m j (takeS (bk m (2 + j)) (lw m (16 + j)) S nx.toNat) 299 hj hI hi1.1 (by omega)) (ok10 (by omega)) rfl rfl (by decide) rfl rfl (Nat.le_of_ble_eq_true rfl) ?_
          refine T.istore_n (ls' := [some (rf E 10 j 0), some (.int (iI (p : Int))), some (.int (iI (nextS (bk m (2 + j)) (takeS (bk m (2 + j)) (lw m (16 + j)) S nx.toNat) 299))), some (.int (iI (i : Int)))]) dX1_takeUpTo_41 rfl ?_
          refine T.iinc (ls' := [some (rf E 10 j 0), some (.int (iI (p : Int))), some (.int (iI (nextS (bk m (2 + j)) (takeS (bk m (2 + j)) (lw m (16 + j)) S nx.toNat) 299))), some (.int (iI ((i : Int) + 1)))]) dX1_takeUpTo_42 rfl rfl ?_
          refine T.goto 10 dX1_takeUpTo_45 ?_
          have hg : tuL (bk m (2 + j)) (lw m (16 + j)) p (12 - i) S nx = tuL (bk m (2 + j)) (lw m (16 + j)) p (12 - (i + 1)) (takeS (bk m (2 + j)) (lw m (16 + j)) S nx.toNat) (nextS (bk m (2 + j)) (takeS (bk m (2 + j)) (lw m (16 + j)) S nx.toNat) 299) := by
            rw [show 12 - i = (12 - (i + 1)) + 1 from by omega]
            refine (if_pos (by omega)).trans ?_
            rw [if_neg (by omega)]
          rw [hg]
          exact ih (12 - (i + 1)) (by omega) (i + 1) (takeS (bk m (2 + j)) (lw m (16 + j)) S nx.toNat) (nextS (bk m (2 + j)) (takeS (bk m (2 + j)) (lw m (16 + j)) S nx.toNat) 299) rfl (by omega) hi1.1 hi1.2 (by omega)
        · refine T.iconst dX1_takeUpTo_30 ?_
          refine T.goto 41 dX1_takeUpTo_31 ?_
          refine T.istore_n (ls' := [some (rf E 10 j 0), some (.int (iI (p : Int))), some (.int (iI (-1))), some (.int (iI (i : Int)))]) dX1_takeUpTo_41 rfl ?_
          refine T.iinc (ls' := [some (rf E 10 j 0), some (.int (iI (p : Int))), some (.int (iI (-1))), some (.int (iI ((i : Int) + 1)))]) dX1_takeUpTo_42 rfl rfl ?_
          refine T.goto 10 dX1_takeUpTo_45 ?_
          have hg : tuL (bk m (2 + j)) (lw m (16 + j)) p (12 - i) S nx = tuL (bk m (2 + j)) (lw m (16 + j)) p (12 - (i + 1)) (takeS (bk m (2 + j)) (lw m (16 + j)) S nx.toNat) (-1) := by
            rw [show 12 - i = (12 - (i + 1)) + 1 from by omega]
            refine (if_pos (by omega)).trans ?_
            rw [if_pos (by omega)]
          rw [hg]
          exact ih (12 - (i + 1)) (by omega) (i + 1) (takeS (bk m (2 + j)) (lw m (16 + j)) S nx.toNat) (-1) rfl (by omega) hi1.1 hi1.2 (by omega)
set_option maxHeartbeats 4000000 in
set_option maxRecDepth 100000 in
theorem c_takeUpTo (E : Ev) (m : Mem) (j : Nat) (S : PS) (p : Nat) (hj : j < 6) (hI : Inv m) (hS : InvS kC S) (hB : CB (bk m (2 + j)) S) (hp12 : p < 12) : CT E 6 mX1_takeUpTo [rf E 10 j 0, .int (iI (p : Int))] (hp E (wrC m j S)) (none) (hp E (wrC m j (tuS (bk m (2 + j)) (lw m (16 + j)) S p))) := by
  refine CT.go okX1_takeUpTo (Nat.le_of_ble_eq_true rfl) ?_
  show T E 6 mX1_takeUpTo 0 [some (rf E 10 j 0), some (.int (iI (p : Int))), none, none] [] (hp E (wrC m j S)) _
  have hnx2 : -1 ≤ nextS (bk m (2 + j)) S 299 ∧ nextS (bk m (2 + j)) S 299 < (((bk m (2 + j)) 13 0).toNat : Int) := nextL_rg _
  have hn13 := n12_of hI (2 + j)
  refine T.aload_n dX1_takeUpTo_0 rfl ?_
  refine T.sipush dX1_takeUpTo_1 ?_
  refine T.cV1 (As := [.int (iI 299)]) (st := []) dX1_takeUpTo_4 lk_X1_104 (c_next E m j S 299 hj hI hS (by omega)) (ok10 (by omega)) rfl rfl (by decide) rfl rfl (Nat.le_of_ble_eq_true rfl) ?_
  refine T.istore_n (ls' := [some (rf E 10 j 0), some (.int (iI (p : Int))), some (.int (iI (nextS (bk m (2 + j)) S 299))), none]) dX1_takeUpTo_7 rfl ?_
  refine T.iconst dX1_takeUpTo_8 ?_
  refine T.istore_n (ls' := [some (rf E 10 j 0), some (.int (iI (p : Int))), some (.int (iI (nextS (bk m (2 + j)) S 299))), some (.int (iI 0))]) dX1_takeUpTo_9 rfl ?_
  exact c_tu_loop E m j p hj hI hp12 _ 0 S (nextS (bk m (2 + j)) S 299) rfl (by omega) hS hB (by omega)
