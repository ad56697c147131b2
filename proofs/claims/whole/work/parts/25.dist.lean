theorem updS_wrC {m : Mem} {j : Nat} {S : PS} {k : Nat} {g : Nat → Int} (h : kC k = true) : updS (wrC m j S) k j 0 g = wrC m j (setT S k g) := by
  funext k' j' i'
  unfold updS wrC setT
  by_cases h1 : k' = k <;> by_cases h2 : j' = j <;> by_cases h3 : i' = 0 <;> simp_all
theorem wrC_cf {m : Mem} {j : Nat} {S : PS} {k : Nat} (h : kC k = true) : wrC m j S k j 0 = S k := by funext x; exact wrC_c h
theorem deadL_inv {β S : PS} (h : InvS kC S) : ∀ n, InvS kC (deadL β S n)
  | 0 => h
  | n + 1 => (deadL_inv h n).up (by show 0 ≤ _ ∧ _ ≤ (1 : Int); unfold deadF; rcases bZ_01 (0 < β 7 n ∧ max (β 2 n) (S 13 n) + β 7 n < S 10 2 ∧ opS β S n) with z | z <;> rw [z] <;> decide)
theorem dist0_inv {β S : PS} (h : InvS kC S) : InvS kC (dist0 β S) := deadL_inv (InvS.set (k := 19) (InvS.set (k := 18) h (fun _ => trivial)) (fun _ => trivial)) _
theorem dist0_k {β S : PS} {k : Nat} (h : k ≠ 16 ∧ k ≠ 18 ∧ k ≠ 19) : dist0 β S k = S k := by
  unfold dist0 deadS
  rw [deadL_k h.1, setT_d h.2.2, setT_d h.2.1]
theorem sh1_inv {L S : PS} {fr : Nat} {a al : Int} (h : InvS kC S) : ∀ k : Nat, InvS kC (sh1 L S fr a al k).1 ∧ (∀ q, q ≠ 11 ∧ q ≠ 12 ∧ q ≠ 13 ∧ q ≠ 14 ∧ q ≠ 15 ∧ q ≠ 18 ∧ q ≠ 19 → (sh1 L S fr a al k).1 q = S q) ∧ a - 4099990000 * k ≤ (sh1 L S fr a al k).2 ∧ (sh1 L S fr a al k).2 ≤ a
  | 0 => ⟨h, fun _ _ => rfl, by unfold sh1; simp, by unfold sh1; simp⟩
  | k + 1 => by
    obtain ⟨i1, i2, i3, i4⟩ := sh1_inv (L := L) (fr := fr) (a := a) (al := al) h k
    unfold sh1
    simp only
    have hb := giveR_bd (S 17 (fr + k)).toNat (a * ((sh1 L S fr a al k).1 11 (S 17 (fr + k)).toNat + (sh1 L S fr a al k).1 12 (S 17 (fr + k)).toNat) / al) i1
    exact ⟨giveS_inv _ _ i1, fun q hq => (giveS_k hq).trans (i2 q hq), by omega, by omega⟩
theorem sh2_inv {L S : PS} {fr : Nat} {a : Int} (h : InvS kC S) : ∀ k : Nat, InvS kC (sh2 L S fr a k).1 ∧ (∀ q, q ≠ 11 ∧ q ≠ 12 ∧ q ≠ 13 ∧ q ≠ 14 ∧ q ≠ 15 ∧ q ≠ 18 ∧ q ≠ 19 → (sh2 L S fr a k).1 q = S q) ∧ a - 4099990000 * k ≤ (sh2 L S fr a k).2 ∧ (sh2 L S fr a k).2 ≤ a
  | 0 => ⟨h, fun _ _ => rfl, by unfold sh2; simp, by unfold sh2; simp⟩
  | k + 1 => by
    obtain ⟨i1, i2, i3, i4⟩ := sh2_inv (L := L) (fr := fr) (a := a) h k
    unfold sh2
    simp only
    have hb := giveR_bd (S 17 (fr + k)).toNat (sh2 L S fr a k).2 i1
    exact ⟨giveS_inv _ _ i1, fun q hq => (giveS_k hq).trans (i2 q hq), by omega, by omega⟩
theorem shareS_inv {L S : PS} {fr c : Nat} {a : Int} (h : InvS kC S) : InvS kC (shareS L S fr (fr + c) a).1 ∧ (∀ q, q ≠ 11 ∧ q ≠ 12 ∧ q ≠ 13 ∧ q ≠ 14 ∧ q ≠ 15 ∧ q ≠ 18 ∧ q ≠ 19 → (shareS L S fr (fr + c) a).1 q = S q) ∧ a - 8199980000 * c ≤ (shareS L S fr (fr + c) a).2 ∧ (shareS L S fr (fr + c) a).2 ≤ a := by
  unfold shareS
  rw [show fr + c - fr = c from by omega]
  simp only
  split
  · obtain ⟨i1, i2, i3, i4⟩ := sh1_inv (L := L) (fr := fr) (a := a) (al := allL S fr c) h c
    obtain ⟨j1, j2, j3, j4⟩ := sh2_inv (L := L) (fr := fr) (a := (sh1 L S fr a (allL S fr c) c).2) i1 c
    exact ⟨j1, fun q hq => (j2 q hq).trans (i2 q hq), by omega, by omega⟩
  · obtain ⟨j1, j2, j3, j4⟩ := sh2_inv (L := L) (fr := fr) (a := a) h c
    exact ⟨j1, j2, by simp only; omega, by simp only; omega⟩
theorem ordL_n {ok : Nat → Bool} {cmp : Nat → Nat → Int} {od : Nat → Int} : ∀ n, (ordL ok cmp od n).1 ≤ n
  | 0 => Nat.le_refl _
  | n + 1 => by
    have := ordL_n (ok := ok) (cmp := cmp) (od := od) n
    unfold ordL
    split <;> simp <;> omega
theorem ordL_rg {ok : Nat → Bool} {cmp : Nat → Nat → Int} {od : Nat → Int} (h : ∀ x, 0 ≤ od x ∧ od x ≤ 7) : ∀ n, n ≤ 8 → ∀ x, 0 ≤ (ordL ok cmp od n).2 x ∧ (ordL ok cmp od n).2 x ≤ 7
  | 0, _, x => h x
  | n + 1, hn, x => by
    unfold ordL
    split
    · exact insF_rg (by omega) _ _ (ordL_rg h n (by omega)) x
    · exact ordL_rg h n (by omega) x
theorem grE_bd {β L S : PS} {n fr : Nat} : ∀ (f e : Nat), e ≤ n → e ≤ grE β L S n fr f e ∧ grE β L S n fr f e ≤ n
  | 0, e, h => ⟨Nat.le_refl _, h⟩
  | f + 1, e, h => by
    unfold grE
    split
    · rename_i hc
      have := grE_bd (β := β) (L := L) (S := S) (n := n) (fr := fr) f (e + 1) hc.2.1
      omega
    · exact ⟨Nat.le_refl _, h⟩
noncomputable def tl40 (β L D : PS) (ov : Int) : PS × Int :=
  if 0 < ov then dsL β L (ordS β L D).1 (ordS β L D).1 0 (setT D 17 (ordS β L D).2) ov else (D, ov)
theorem distS_40 (β L S : PS) (a c : Int) : distS β L S a c = upT (tl40 β L (dist1 β L S a c).1 (dist1 β L S a c).2).1 10 13 (tl40 β L (dist1 β L S a c).1 (dist1 β L S a c).2).2 := by
  unfold distS dist3 dist2 tl40
  split <;> rfl
set_option maxHeartbeats 4000000 in
set_option maxRecDepth 100000 in
theorem c_dist_in (E : Ev) (m : Mem) (j : Nat) (S : PS) (hj : j < 6) (hI : Inv m) (hS : InvS kC S) (n fr : Nat) (ov : Int) (hn : n ≤ 8) (hfr : fr < 8) (Q : Option Value → Hp → Prop) : ∀ (f e : Nat), n - e ≤ f → e ≤ n → T E 4 mX1_distribute 130 [some (rf E 10 j 0), none, none, none, some (.long (lI ov)), none, some (.int (iI (n : Int))), some (.int (iI (bZ (hasB (lw m (16 + j)) 112)))), some (.int (iI ((grE (bk m (2 + j)) (lw m (16 + j)) S n fr f e : Nat) : Int))), some (.int (iI (fr : Int)))] [] (hp E (wrC m j S)) Q → T E 4 mX1_distribute 91 [some (rf E 10 j 0), none, none, none, some (.long (lI ov)), none, some (.int (iI (n : Int))), some (.int (iI (bZ (hasB (lw m (16 + j)) 112)))), some (.int (iI (e : Int))), some (.int (iI (fr : Int)))] [] (hp E (wrC m j S)) Q := by
  intro f
  induction f with
  | zero =>
    intro e hf hen hK
    refine T.iload dX1_distribute_91 rfl ?_
    refine T.ifB_eq 130 dX1_distribute_93 (fun c1 => ?_) (fun c1 => ?_)
    · exact hK
    · refine T.iload dX1_distribute_96 rfl ?_
      refine T.iload dX1_distribute_98 rfl ?_
      refine T.icmp_ge 130 dX1_distribute_100 (by unfold rg; omega) (by unfold rg; omega) (fun c2 => ?_) (fun c2 => ?_)
      · exact hK
      · exact absurd c2 (by omega)
  | succ f ih =>
    intro e hf hen hK
    refine T.iload dX1_distribute_91 rfl ?_
    refine T.ifB_eq 130 dX1_distribute_93 (fun c1 => ?_) (fun c1 => ?_)
    · rw [show grE (bk m (2 + j)) (lw m (16 + j)) S n fr (f + 1) e = e from by unfold grE; rw [if_neg (fun z => by obtain ⟨z1, z2, z3⟩ := z; first | contradiction | omega)]] at hK
      exact hK
    · refine T.iload dX1_distribute_96 rfl ?_
      refine T.iload dX1_distribute_98 rfl ?_
      refine T.icmp_ge 130 dX1_distribute_100 (by unfold rg; omega) (by unfold rg; omega) (fun c2 => ?_) (fun c2 => ?_)
      · rw [show grE (bk m (2 + j)) (lw m (16 + j)) S n fr (f + 1) e = e from by unfold grE; rw [if_neg (fun z => by obtain ⟨z1, z2, z3⟩ := z; first | contradiction | omega)]] at hK
        exact hK
      · refine T.aload_n dX1_distribute_103 rfl ?_
        refine T.aload_n dX1_distribute_104 rfl ?_
        refine T.mget (v := rf E 17 j 0) dX1_distribute_105 fo_X1_53 (ok10 (by omega)) rfl rfl ?_
        refine T.iload dX1_distribute_108 rfl ?_
        refine T.aI (z := S 17 fr) (x := fr) dX1_distribute_110 (ok17 (by omega)) (fun _ => rfl) rfl (by omega) (wrC_c rfl) ?_
        have q3 : 0 ≤ S 17 fr ∧ S 17 fr ≤ 7 := hS 17 fr rfl
        refine T.aload_n dX1_distribute_111 rfl ?_
        refine T.mget (v := rf E 17 j 0) dX1_distribute_112 fo_X1_53 (ok10 (by omega)) rfl rfl ?_
        refine T.iload dX1_distribute_115 rfl ?_
        refine T.aI (z := S 17 e) (x := e) dX1_distribute_117 (ok17 (by omega)) (fun _ => rfl) rfl (by omega) (wrC_c rfl) ?_
        have q4 : 0 ≤ S 17 e ∧ S 17 e ≤ 7 := hS 17 e rfl
        refine T.cV1 (As := [.int (iI (S 17 fr)), .int (iI (S 17 e))]) (st := []) dX1_distribute_118 lk_X1_163 (by have h0 := c_cmp E m j S (S 17 fr).toNat (S 17 e).toNat hj hI hS (by omega) (by omega); rw [show (((S 17 fr).toNat : Nat) : Int) = S 17 fr from by omega, show (((S 17 e).toNat : Nat) : Int) = S 17 e from by omega] at h0; exact h0) (ok10 (by omega)) rfl rfl (by decide) rfl rfl (Nat.le_of_ble_eq_true rfl) ?_
        have hr : -1 ≤ cmpS (bk m (2 + j)) (lw m (16 + j)) S (S 17 fr).toNat (S 17 e).toNat ∧ cmpS (bk m (2 + j)) (lw m (16 + j)) S (S 17 fr).toNat (S 17 e).toNat ≤ 1 := cmpN_rg (bk m (2 + j)) (S 10 2) (fun x => S 11 x + S 12 x) ((lw m (16 + j)) 2) (S 17 fr).toNat (S 17 e).toNat ((lw m (16 + j)) 0 0).toNat
        refine T.if_ne 130 dX1_distribute_121 (by unfold rg; omega) (fun c5 => ?_) (fun c5 => ?_)
        · rw [show grE (bk m (2 + j)) (lw m (16 + j)) S n fr (f + 1) e = e from by unfold grE; rw [if_neg (fun z => by obtain ⟨z1, z2, z3⟩ := z; first | contradiction | omega)]] at hK
          exact hK
        · refine T.iinc (ls' := [some (rf E 10 j 0), none, none, none, some (.long (lI ov)), none, some (.int (iI (n : Int))), some (.int (iI (bZ (hasB (lw m (16 + j)) 112)))), some (.int (iI ((e : Int) + 1))), some (.int (iI (fr : Int)))]) dX1_distribute_124 rfl rfl ?_
          refine T.goto 91 dX1_distribute_127 ?_
          rw [show grE (bk m (2 + j)) (lw m (16 + j)) S n fr (f + 1) e = grE (bk m (2 + j)) (lw m (16 + j)) S n fr f (e + 1) from by conv => lhs; unfold grE; rw [if_pos ⟨by assumption, by omega, by omega⟩]] at hK
          exact ih (e + 1) (by omega) (by omega) hK
set_option maxHeartbeats 4000000 in
set_option maxRecDepth 100000 in
theorem c_dist_sh (E : Ev) (m : Mem) (j : Nat) (S : PS) (hj : j < 6) (hI : Inv m) (hS : InvS kC S) (n fr cc : Nat) (ov : Int) (hc : fr + cc ≤ 8) (ho : 0 ≤ ov ∧ ov ≤ 1000000000) (Q : Option Value → Hp → Prop) (hK : T E 4 mX1_distribute 71 [some (rf E 10 j 0), none, none, none, some (.long (lI ((shareS (lw m (16 + j)) S fr (fr + cc) ov).2))), none, some (.int (iI (n : Int))), some (.int (iI (bZ (hasB (lw m (16 + j)) 112)))), none, some (.int (iI ((fr + cc : Nat) : Int)))] [] (hp E (wrC m j (shareS (lw m (16 + j)) S fr (fr + cc) ov).1)) Q) : T E 4 mX1_distribute 130 [some (rf E 10 j 0), none, none, none, some (.long (lI ov)), none, some (.int (iI (n : Int))), some (.int (iI (bZ (hasB (lw m (16 + j)) 112)))), some (.int (iI ((fr + cc : Nat) : Int))), some (.int (iI (fr : Int)))] [] (hp E (wrC m j S)) Q := by
  refine T.aload_n dX1_distribute_130 rfl ?_
  refine T.iload dX1_distribute_131 rfl ?_
  refine T.iload dX1_distribute_133 rfl ?_
  refine T.lload dX1_distribute_135 rfl ?_
  refine T.cV1 (As := [.int (iI (fr : Int)), .int (iI ((fr + cc : Nat) : Int)), .long (lI ov)]) (st := []) dX1_distribute_137 lk_X1_213 (by have h0 := c_share E m j S fr cc ov hj hI hS (by omega) (by omega); exact h0) (ok10 (by omega)) rfl rfl (by decide) rfl rfl (Nat.le_of_ble_eq_true rfl) ?_
  refine T.lstore (ls' := [some (rf E 10 j 0), none, none, none, some (.long (lI ((shareS (lw m (16 + j)) S fr (fr + cc) ov).2))), none, some (.int (iI (n : Int))), some (.int (iI (bZ (hasB (lw m (16 + j)) 112)))), some (.int (iI ((fr + cc : Nat) : Int))), some (.int (iI (fr : Int)))]) dX1_distribute_140 rfl ?_
  refine T.iload dX1_distribute_142 rfl ?_
  refine T.istore (ls' := [some (rf E 10 j 0), none, none, none, some (.long (lI ((shareS (lw m (16 + j)) S fr (fr + cc) ov).2))), none, some (.int (iI (n : Int))), some (.int (iI (bZ (hasB (lw m (16 + j)) 112)))), some (.int (iI ((fr + cc : Nat) : Int))), some (.int (iI ((fr + cc : Nat) : Int)))]) dX1_distribute_144 rfl ?_
  refine T.goto 71 dX1_distribute_146 ?_
  refine T.fgt (ls' := [some (rf E 10 j 0), none, none, none, some (.long (lI ((shareS (lw m (16 + j)) S fr (fr + cc) ov).2))), none, some (.int (iI (n : Int))), some (.int (iI (bZ (hasB (lw m (16 + j)) 112)))), none, some (.int (iI ((fr + cc : Nat) : Int)))]) (by simp [lsw]) ?_
  exact hK
set_option maxHeartbeats 4000000 in
set_option maxRecDepth 100000 in
theorem c_dist_lp (E : Ev) (m : Mem) (j : Nat) (hj : j < 6) (hI : Inv m) (n : Nat) (hn : n ≤ 8) : ∀ (f fr : Nat) (S : PS) (ov : Int), InvS kC S → n - fr ≤ f → fr ≤ n → (-1000000000000 ≤ ov ∧ ov ≤ 1000000000) → T E 4 mX1_distribute 71 [some (rf E 10 j 0), none, none, none, some (.long (lI ov)), none, some (.int (iI (n : Int))), some (.int (iI (bZ (hasB (lw m (16 + j)) 112)))), none, some (.int (iI (fr : Int)))] [] (hp E (wrC m j S)) (fun r' h' => r' = none ∧ h' = hp E (wrC m j (upT (dsL (bk m (2 + j)) (lw m (16 + j)) n f fr S ov).1 10 13 (dsL (bk m (2 + j)) (lw m (16 + j)) n f fr S ov).2))) := by
  intro f
  induction f with
  | zero =>
    intro fr S ov hS hf hfn ho
    refine T.iload dX1_distribute_71 rfl ?_
    refine T.iload dX1_distribute_73 rfl ?_
    refine T.icmp_ge 149 dX1_distribute_75 (by unfold rg; omega) (by unfold rg; omega) (fun c1 => ?_) (fun c1 => ?_)
    · refine T.aload_n dX1_distribute_149 rfl ?_
      refine T.lload dX1_distribute_150 rfl ?_
      refine T.cputL dX1_distribute_152 fp_X1_62 rfl (ok10 (by omega)) rfl rfl (Nat.le_of_ble_eq_true rfl) ?_
      exact T.vret dX1_distribute_155 ⟨rfl, rfl⟩
    · exact absurd c1 (by omega)
  | succ f ih =>
    intro fr S ov hS hf hfn ho
    refine T.iload dX1_distribute_71 rfl ?_
    refine T.iload dX1_distribute_73 rfl ?_
    refine T.icmp_ge 149 dX1_distribute_75 (by unfold rg; omega) (by unfold rg; omega) (fun c1 => ?_) (fun c1 => ?_)
    · refine T.aload_n dX1_distribute_149 rfl ?_
      refine T.lload dX1_distribute_150 rfl ?_
      refine T.cputL dX1_distribute_152 fp_X1_62 rfl (ok10 (by omega)) rfl rfl (Nat.le_of_ble_eq_true rfl) ?_
      rw [show (dsL (bk m (2 + j)) (lw m (16 + j)) n (f + 1) fr S ov) = (S, ov) from by unfold dsL; rw [if_neg (by omega)]]
      exact T.vret dX1_distribute_155 ⟨rfl, rfl⟩
    · refine T.lload dX1_distribute_78 rfl ?_
      refine T.lconst0 dX1_distribute_80 ?_
      refine T.lcmp_le 149 dX1_distribute_81 dX1_distribute_82 (by unfold rl; omega) (by unfold rl; omega) (fun c2 => ?_) (fun c2 => ?_)
      · refine T.aload_n dX1_distribute_149 rfl ?_
        refine T.lload dX1_distribute_150 rfl ?_
        refine T.cputL dX1_distribute_152 fp_X1_62 rfl (ok10 (by omega)) rfl rfl (Nat.le_of_ble_eq_true rfl) ?_
        rw [show (dsL (bk m (2 + j)) (lw m (16 + j)) n (f + 1) fr S ov) = (S, ov) from by unfold dsL; rw [if_neg (by omega)]]
        exact T.vret dX1_distribute_155 ⟨rfl, rfl⟩
      · refine T.iload dX1_distribute_85 rfl ?_
        refine T.iconst dX1_distribute_87 ?_
        refine T.iadd dX1_distribute_88 ?_
        refine T.istore (ls' := [some (rf E 10 j 0), none, none, none, some (.long (lI ov)), none, some (.int (iI (n : Int))), some (.int (iI (bZ (hasB (lw m (16 + j)) 112)))), some (.int (iI ((fr : Int) + 1))), some (.int (iI (fr : Int)))]) dX1_distribute_89 rfl ?_
        refine c_dist_in E m j S hj hI hS n fr ov hn (by omega) _ n (fr + 1) (by omega) (by omega) ?_
        have hge := grE_bd (β := (bk m (2 + j))) (L := (lw m (16 + j))) (S := S) (n := n) (fr := fr) n (fr + 1) (by omega)
        obtain ⟨cc, hcc⟩ : ∃ cc, (grE (bk m (2 + j)) (lw m (16 + j)) S n fr n (fr + 1)) = fr + cc := ⟨(grE (bk m (2 + j)) (lw m (16 + j)) S n fr n (fr + 1)) - fr, by omega⟩
        rw [show (dsL (bk m (2 + j)) (lw m (16 + j)) n (f + 1) fr S ov) = dsL (bk m (2 + j)) (lw m (16 + j)) n f (fr + cc) (shareS (lw m (16 + j)) S fr (fr + cc) ov).1 (shareS (lw m (16 + j)) S fr (fr + cc) ov).2 from by conv => lhs; unfold dsL; rw [if_pos (by omega), hcc]]
        rw [hcc]
        obtain ⟨i1, i2, i3, i4⟩ := shareS_inv (L := (lw m (16 + j))) (fr := fr) (c := cc) (a := ov) hS
        refine c_dist_sh E m j S hj hI hS n fr cc ov (by omega) (by omega) _ ?_
        exact ih (fr + cc) (shareS (lw m (16 + j)) S fr (fr + cc) ov).1 (shareS (lw m (16 + j)) S fr (fr + cc) ov).2 i1 (by omega) (by omega) (by omega)
