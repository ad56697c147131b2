set_option maxHeartbeats 4000000 in
set_option maxRecDepth 100000 in
theorem c_chosen (E : Ev) (m : Mem) (j : Nat) (S : PS) (p : Nat) (hj : j < 6) (hI : Inv m) (hS : InvS kC S) (hp12 : p < 12) : CT E 2 mX1_chosenDebt [rf E 10 j 0, rf E 7 (2 + j) p] (hp E (wrC m j S)) (some (.int (iI (chS (bk m (2 + j)) (lw m (16 + j)) S p)))) (hp E (wrC m j S)) := by
  refine CT.go okX1_chosenDebt (Nat.le_of_ble_eq_true rfl) ?_
  show T E 2 mX1_chosenDebt 0 [some (rf E 10 j 0), some (rf E 7 (2 + j) p)] [] (hp E (wrC m j S)) _
  refine T.aload_n dX1_chosenDebt_0 rfl ?_
  refine T.mget (v := rf E 8 (16 + j) 0) dX1_chosenDebt_1 fo_X1_21 (ok10 (by omega)) rfl rfl ?_
  refine T.bipush dX1_chosenDebt_4 ?_
  refine T.cV1 (As := [.int (iI 99)]) (st := []) dX1_chosenDebt_6 lk_X1_160 (show CT E 1 mX3_has _ _ (some (.int (iI (bZ (hasB (lw m (16 + j)) 99))))) _ from c_has E (wrC m j S) (16 + j) 99 (by omega) (by decide) (hI.wrC hS)) (ok8 (by omega)) rfl rfl (by decide) rfl rfl (Nat.le_of_ble_eq_true rfl) ?_
  refine T.ifB_eq 28 dX1_chosenDebt_9 (fun c1 => ?_) (fun c1 => ?_)
  · refine T.aload_n dX1_chosenDebt_28 rfl ?_
    refine T.mget (v := rf E 8 (16 + j) 0) dX1_chosenDebt_29 fo_X1_21 (ok10 (by omega)) rfl rfl ?_
    refine T.bipush dX1_chosenDebt_32 ?_
    refine T.cV1 (As := [.int (iI 116)]) (st := []) dX1_chosenDebt_34 lk_X1_160 (show CT E 1 mX3_has _ _ (some (.int (iI (bZ (hasB (lw m (16 + j)) 116))))) _ from c_has E (wrC m j S) (16 + j) 116 (by omega) (by decide) (hI.wrC hS)) (ok8 (by omega)) rfl rfl (by decide) rfl rfl (Nat.le_of_ble_eq_true rfl) ?_
    refine T.ifB_eq 56 dX1_chosenDebt_37 (fun c2 => ?_) (fun c2 => ?_)
    · refine T.iconst dX1_chosenDebt_56 ?_
      exact T.iret dX1_chosenDebt_57 ⟨by congr 3; unfold chS; symm; rw [if_neg (fun z => by obtain ⟨z1, z2⟩ := z; contradiction), if_neg (fun z => by obtain ⟨z1, z2⟩ := z; contradiction)], rfl⟩
    · refine T.aload_n dX1_chosenDebt_40 rfl ?_
      refine T.aload_n dX1_chosenDebt_41 rfl ?_
      refine T.gI (z := m 7 (2 + j) p 3) dX1_chosenDebt_42 fo_X1_193 (ok7 (by omega) (by omega)) rfl rfl rfl ?_
      have q3 : -1 ≤ m 7 (2 + j) p 3 ∧ m 7 (2 + j) p 3 ≤ 7 := hI 7 (2 + j) p 3
      refine T.cV1 (As := [.int (iI (m 7 (2 + j) p 3))]) (st := []) dX1_chosenDebt_45 lk_X1_156 (show CT E 1 mX1_isOpen _ _ (some (.int (iI (bZ (opS (bk m (2 + j)) S ((bk m (2 + j)) 11 p)))))) _ from c_isOpen E m j S hj hI hS (by unfold rg; omega)) (ok10 (by omega)) rfl rfl (by decide) rfl rfl (Nat.le_of_ble_eq_true rfl) ?_
      refine T.ifB_eq 56 dX1_chosenDebt_48 (fun c4 => ?_) (fun c4 => ?_)
      · refine T.iconst dX1_chosenDebt_56 ?_
        exact T.iret dX1_chosenDebt_57 ⟨by congr 3; unfold chS; symm; rw [if_neg (fun z => by obtain ⟨z1, z2⟩ := z; contradiction), if_neg (fun z => by obtain ⟨z1, z2⟩ := z; contradiction)], rfl⟩
      · refine T.aload_n dX1_chosenDebt_51 rfl ?_
        refine T.gI (z := m 7 (2 + j) p 3) dX1_chosenDebt_52 fo_X1_193 (ok7 (by omega) (by omega)) rfl rfl rfl ?_
        exact T.iret dX1_chosenDebt_55 ⟨by congr 3; unfold chS; symm; rw [if_neg (fun z => by obtain ⟨z1, z2⟩ := z; contradiction), if_pos ⟨by assumption, by assumption⟩]; rfl, rfl⟩
  · refine T.aload_n dX1_chosenDebt_12 rfl ?_
    refine T.aload_n dX1_chosenDebt_13 rfl ?_
    refine T.gI (z := m 7 (2 + j) p 2) dX1_chosenDebt_14 fo_X1_190 (ok7 (by omega) (by omega)) rfl rfl rfl ?_
    have q5 : -1 ≤ m 7 (2 + j) p 2 ∧ m 7 (2 + j) p 2 ≤ 7 := hI 7 (2 + j) p 2
    refine T.cV1 (As := [.int (iI (m 7 (2 + j) p 2))]) (st := []) dX1_chosenDebt_17 lk_X1_156 (show CT E 1 mX1_isOpen _ _ (some (.int (iI (bZ (opS (bk m (2 + j)) S ((bk m (2 + j)) 10 p)))))) _ from c_isOpen E m j S hj hI hS (by unfold rg; omega)) (ok10 (by omega)) rfl rfl (by decide) rfl rfl (Nat.le_of_ble_eq_true rfl) ?_
    refine T.ifB_eq 28 dX1_chosenDebt_20 (fun c6 => ?_) (fun c6 => ?_)
    · refine T.aload_n dX1_chosenDebt_28 rfl ?_
      refine T.mget (v := rf E 8 (16 + j) 0) dX1_chosenDebt_29 fo_X1_21 (ok10 (by omega)) rfl rfl ?_
      refine T.bipush dX1_chosenDebt_32 ?_
      refine T.cV1 (As := [.int (iI 116)]) (st := []) dX1_chosenDebt_34 lk_X1_160 (show CT E 1 mX3_has _ _ (some (.int (iI (bZ (hasB (lw m (16 + j)) 116))))) _ from c_has E (wrC m j S) (16 + j) 116 (by omega) (by decide) (hI.wrC hS)) (ok8 (by omega)) rfl rfl (by decide) rfl rfl (Nat.le_of_ble_eq_true rfl) ?_
      refine T.ifB_eq 56 dX1_chosenDebt_37 (fun c7 => ?_) (fun c7 => ?_)
      · refine T.iconst dX1_chosenDebt_56 ?_
        exact T.iret dX1_chosenDebt_57 ⟨by congr 3; unfold chS; symm; rw [if_neg (fun z => by obtain ⟨z1, z2⟩ := z; contradiction), if_neg (fun z => by obtain ⟨z1, z2⟩ := z; contradiction)], rfl⟩
      · refine T.aload_n dX1_chosenDebt_40 rfl ?_
        refine T.aload_n dX1_chosenDebt_41 rfl ?_
        refine T.gI (z := m 7 (2 + j) p 3) dX1_chosenDebt_42 fo_X1_193 (ok7 (by omega) (by omega)) rfl rfl rfl ?_
        have q8 : -1 ≤ m 7 (2 + j) p 3 ∧ m 7 (2 + j) p 3 ≤ 7 := hI 7 (2 + j) p 3
        refine T.cV1 (As := [.int (iI (m 7 (2 + j) p 3))]) (st := []) dX1_chosenDebt_45 lk_X1_156 (show CT E 1 mX1_isOpen _ _ (some (.int (iI (bZ (opS (bk m (2 + j)) S ((bk m (2 + j)) 11 p)))))) _ from c_isOpen E m j S hj hI hS (by unfold rg; omega)) (ok10 (by omega)) rfl rfl (by decide) rfl rfl (Nat.le_of_ble_eq_true rfl) ?_
        refine T.ifB_eq 56 dX1_chosenDebt_48 (fun c9 => ?_) (fun c9 => ?_)
        · refine T.iconst dX1_chosenDebt_56 ?_
          exact T.iret dX1_chosenDebt_57 ⟨by congr 3; unfold chS; symm; rw [if_neg (fun z => by obtain ⟨z1, z2⟩ := z; contradiction), if_neg (fun z => by obtain ⟨z1, z2⟩ := z; contradiction)], rfl⟩
        · refine T.aload_n dX1_chosenDebt_51 rfl ?_
          refine T.gI (z := m 7 (2 + j) p 3) dX1_chosenDebt_52 fo_X1_193 (ok7 (by omega) (by omega)) rfl rfl rfl ?_
          exact T.iret dX1_chosenDebt_55 ⟨by congr 3; unfold chS; symm; rw [if_neg (fun z => by obtain ⟨z1, z2⟩ := z; contradiction), if_pos ⟨by assumption, by assumption⟩]; rfl, rfl⟩
    · refine T.aload_n dX1_chosenDebt_23 rfl ?_
      refine T.gI (z := m 7 (2 + j) p 2) dX1_chosenDebt_24 fo_X1_190 (ok7 (by omega) (by omega)) rfl rfl rfl ?_
      exact T.iret dX1_chosenDebt_27 ⟨by congr 3; unfold chS; symm; rw [if_pos ⟨by assumption, by assumption⟩]; rfl, rfl⟩
set_option maxHeartbeats 4000000 in
set_option maxRecDepth 100000 in
theorem c_heeds (E : Ev) (m : Mem) (j : Nat) (S : PS) {d : Int} (hj : j < 6) (hI : Inv m) (hS : InvS kC S) (hd : rg d) : CT E 2 mX1_heedsWord [rf E 10 j 0, .int (iI d)] (hp E (wrC m j S)) (some (.int (iI (bZ (hasB (lw m (16 + j)) 99 ∧ opS (bk m (2 + j)) S d))))) (hp E (wrC m j S)) := by
  refine CT.go okX1_heedsWord (Nat.le_of_ble_eq_true rfl) ?_
  show T E 2 mX1_heedsWord 0 [some (rf E 10 j 0), some (.int (iI d))] [] (hp E (wrC m j S)) _
  unfold rg at hd
  refine T.aload_n dX1_heedsWord_0 rfl ?_
  refine T.mget (v := rf E 8 (16 + j) 0) dX1_heedsWord_1 fo_X1_21 (ok10 (by omega)) rfl rfl ?_
  refine T.bipush dX1_heedsWord_4 ?_
  refine T.cV1 (As := [.int (iI 99)]) (st := []) dX1_heedsWord_6 lk_X1_160 (show CT E 1 mX3_has _ _ (some (.int (iI (bZ (hasB (lw m (16 + j)) 99))))) _ from c_has E (wrC m j S) (16 + j) 99 (by omega) (by decide) (hI.wrC hS)) (ok8 (by omega)) rfl rfl (by decide) rfl rfl (Nat.le_of_ble_eq_true rfl) ?_
  refine T.ifB_eq 24 dX1_heedsWord_9 (fun c1 => ?_) (fun c1 => ?_)
  · refine T.iconst dX1_heedsWord_24 ?_
    exact T.zret dX1_heedsWord_25 (narZ (Or.inl rfl)) ⟨by rw [bZ_f (fun z => by obtain ⟨z1, z2⟩ := z; contradiction)], rfl⟩
  · refine T.aload_n dX1_heedsWord_12 rfl ?_
    refine T.iload_n dX1_heedsWord_13 rfl ?_
    refine T.cV1 (As := [.int (iI d)]) (st := []) dX1_heedsWord_14 lk_X1_156 (c_isOpen E m j S hj hI hS (by unfold rg; omega)) (ok10 (by omega)) rfl rfl (by decide) rfl rfl (Nat.le_of_ble_eq_true rfl) ?_
    refine T.ifB_eq 24 dX1_heedsWord_17 (fun c2 => ?_) (fun c2 => ?_)
    · refine T.iconst dX1_heedsWord_24 ?_
      exact T.zret dX1_heedsWord_25 (narZ (Or.inl rfl)) ⟨by rw [bZ_f (fun z => by obtain ⟨z1, z2⟩ := z; contradiction)], rfl⟩
    · refine T.iconst dX1_heedsWord_20 ?_
      refine T.goto 25 dX1_heedsWord_21 ?_
      exact T.zret dX1_heedsWord_25 (narZ (Or.inr rfl)) ⟨by rw [bZ_t ⟨by assumption, by assumption⟩], rfl⟩
theorem insF_rg {cmp : Nat → Nat → Int} {d : Nat} (hd : d ≤ 7) : ∀ (p : Nat) (o : Nat → Int), (∀ x, 0 ≤ o x ∧ o x ≤ 7) → ∀ x, 0 ≤ insF cmp o d p x ∧ insF cmp o d p x ≤ 7
  | 0, o, h, x => by
    unfold insF upd1
    split
    · omega
    · exact h x
  | p + 1, o, h, x => by
    unfold insF
    split
    · apply insF_rg hd p
      intro y
      unfold upd1
      split
      · exact h p
      · exact h y
    · unfold upd1
      split
      · omega
      · exact h x
theorem InvS.set {f : Nat → Bool} {S : PS} {k : Nat} {g : Nat → Int} (h : InvS f S) (hg : ∀ x, inR k x (g x)) : InvS f (setT S k g) := by
  intro k' x hk
  unfold setT
  split
  · rename_i e; subst e; exact hg x
  · exact h k' x hk
theorem cmpN_rg (β : PS) (day : Int) (left lt : Nat → Int) (a b : Nat) : ∀ n, -1 ≤ cmpN β day left lt a b n ∧ cmpN β day left lt a b n ≤ 1
  | 0 => by unfold cmpN; omega
  | n + 1 => by
    have h1 := cmpN_rg β day left lt a b n
    unfold cmpN
    split
    · exact sg_rg _ _
    · exact h1
set_option maxHeartbeats 4000000 in
set_option maxRecDepth 100000 in
theorem c_ord_in (E : Ev) (m : Mem) (j : Nat) (S : PS) (hj : j < 6) (hI : Inv m) (hS : InvS kC S) (n d : Nat) (hd : d < 8) (Q : Option Value → Hp → Prop) : ∀ (p : Nat) (o : Nat → Int), p ≤ n → n ≤ 7 → (∀ x, 0 ≤ o x ∧ o x ≤ 7) → InvS kC (setT S 17 o) → T E 3 mX1_orderOpen 14 [some (rf E 10 j 0), some (.int (iI ((n : Int) + 1))), some (.int (iI (bZ (hasB (lw m (16 + j)) 120)))), some (.int (iI ((d : Int) + 1))), none] [] (hp E (wrC m j (setT S 17 (insF (cmpS (bk m (2 + j)) (lw m (16 + j)) S) o d p)))) Q → T E 3 mX1_orderOpen 49 [some (rf E 10 j 0), some (.int (iI (n : Int))), some (.int (iI (bZ (hasB (lw m (16 + j)) 120)))), some (.int (iI (d : Int))), some (.int (iI (p : Int)))] [] (hp E (wrC m j (setT S 17 o))) Q := by
  intro p
  induction p with
  | zero =>
    intro o hpn hn7 ho hD hK
    obtain ⟨D, hDe⟩ : ∃ D, D = setT S 17 o := ⟨_, rfl⟩
    rw [← hDe] at hD ⊢
    have e10 : D 10 = S 10 := by rw [hDe, setT_d (by decide)]
    have e11 : D 11 = S 11 := by rw [hDe, setT_d (by decide)]
    have e12 : D 12 = S 12 := by rw [hDe, setT_d (by decide)]
    have e17 : D 17 = o := by rw [hDe, setT_k]
    have hcm : ∀ a b, cmpS (bk m (2 + j)) (lw m (16 + j)) D a b = cmpS (bk m (2 + j)) (lw m (16 + j)) S a b := fun a b => by unfold cmpS; rw [e10, e11, e12]
    show T E 3 mX1_orderOpen 49 [some (rf E 10 j 0), some (.int (iI (n : Int))), some (.int (iI (bZ (hasB (lw m (16 + j)) 120)))), some (.int (iI (d : Int))), some (.int (iI 0))] [] (hp E (wrC m j D)) Q
    refine T.iload dX1_orderOpen_49 rfl ?_
    refine T.if_le 93 dX1_orderOpen_51 (by unfold rg; omega) (fun c1 => ?_) (fun c1 => ?_)
    · refine T.aload_n dX1_orderOpen_93 rfl ?_
      refine T.mget (v := rf E 17 j 0) dX1_orderOpen_94 fo_X1_53 (ok10 (by omega)) rfl rfl ?_
      refine T.iload dX1_orderOpen_97 rfl ?_
      refine T.iload_n dX1_orderOpen_99 rfl ?_
      refine T.cist (x := 0) dX1_orderOpen_100 rfl (ok17 (by omega)) (fun _ => rfl) rfl (by decide) ?_
      refine T.iinc (ls' := [some (rf E 10 j 0), some (.int (iI ((n : Int) + 1))), some (.int (iI (bZ (hasB (lw m (16 + j)) 120)))), some (.int (iI (d : Int))), some (.int (iI 0))]) dX1_orderOpen_101 rfl rfl ?_
      refine T.iinc (ls' := [some (rf E 10 j 0), some (.int (iI ((n : Int) + 1))), some (.int (iI (bZ (hasB (lw m (16 + j)) 120)))), some (.int (iI ((d : Int) + 1))), some (.int (iI 0))]) dX1_orderOpen_104 rfl rfl ?_
      refine T.goto 14 dX1_orderOpen_107 ?_
      refine T.fgt (ls' := [some (rf E 10 j 0), some (.int (iI ((n : Int) + 1))), some (.int (iI (bZ (hasB (lw m (16 + j)) 120)))), some (.int (iI ((d : Int) + 1))), none]) (by simp [lsw]) ?_
      rw [show upT D 17 0 (d : Int) = setT S 17 (insF (cmpS (bk m (2 + j)) (lw m (16 + j)) S) o d 0) from by rw [hDe, upT_setT']; rfl]
      exact hK
    · exact absurd c1 (by omega)
  | succ q ih =>
    intro o hpn hn7 ho hD hK
    obtain ⟨D, hDe⟩ : ∃ D, D = setT S 17 o := ⟨_, rfl⟩
    rw [← hDe] at hD ⊢
    have e10 : D 10 = S 10 := by rw [hDe, setT_d (by decide)]
    have e11 : D 11 = S 11 := by rw [hDe, setT_d (by decide)]
    have e12 : D 12 = S 12 := by rw [hDe, setT_d (by decide)]
    have e17 : D 17 = o := by rw [hDe, setT_k]
    have hcm : ∀ a b, cmpS (bk m (2 + j)) (lw m (16 + j)) D a b = cmpS (bk m (2 + j)) (lw m (16 + j)) S a b := fun a b => by unfold cmpS; rw [e10, e11, e12]
    show T E 3 mX1_orderOpen 49 [some (rf E 10 j 0), some (.int (iI (n : Int))), some (.int (iI (bZ (hasB (lw m (16 + j)) 120)))), some (.int (iI (d : Int))), some (.int (iI ((q : Int) + 1)))] [] (hp E (wrC m j D)) Q
    refine T.iload dX1_orderOpen_49 rfl ?_
    refine T.if_le 93 dX1_orderOpen_51 (by unfold rg; omega) (fun c1 => ?_) (fun c1 => ?_)
    · exact absurd c1 (by omega)
    · refine T.aload_n dX1_orderOpen_54 rfl ?_
      refine T.iload_n dX1_orderOpen_55 rfl ?_
      refine T.aload_n dX1_orderOpen_56 rfl ?_
      refine T.mget (v := rf E 17 j 0) dX1_orderOpen_57 fo_X1_53 (ok10 (by omega)) rfl rfl ?_
      refine T.iload dX1_orderOpen_60 rfl ?_
      refine T.iconst dX1_orderOpen_62 ?_
      refine T.isub dX1_orderOpen_63 ?_
      refine T.aI (z := D 17 q) (x := q) dX1_orderOpen_64 (ok17 (by omega)) (fun _ => rfl) (by omega) (by omega) (wrC_c rfl) ?_
      have q2 : 0 ≤ D 17 q ∧ D 17 q ≤ 7 := hD 17 q rfl
      refine T.cV1 (As := [.int (iI (d : Int)), .int (iI (D 17 q))]) (st := []) dX1_orderOpen_65 lk_X1_163 (by have h0 := c_cmp E m j D d (D 17 q).toNat hj hI hD (by omega) (by omega); rw [hcm, show ((((D 17 q).toNat : Nat) : Int)) = D 17 q from by omega] at h0; exact h0) (ok10 (by omega)) rfl rfl (by decide) rfl rfl (Nat.le_of_ble_eq_true rfl) ?_
      have hr : -1 ≤ cmpS (bk m (2 + j)) (lw m (16 + j)) S d (D 17 q).toNat ∧ cmpS (bk m (2 + j)) (lw m (16 + j)) S d (D 17 q).toNat ≤ 1 := cmpN_rg (bk m (2 + j)) (S 10 2) (fun x => S 11 x + S 12 x) ((lw m (16 + j)) 2) d (D 17 q).toNat ((lw m (16 + j)) 0 0).toNat
      refine T.if_ge 93 dX1_orderOpen_68 (by unfold rg; omega) (fun c3 => ?_) (fun c3 => ?_)
      · refine T.aload_n dX1_orderOpen_93 rfl ?_
        refine T.mget (v := rf E 17 j 0) dX1_orderOpen_94 fo_X1_53 (ok10 (by omega)) rfl rfl ?_
        refine T.iload dX1_orderOpen_97 rfl ?_
        refine T.iload_n dX1_orderOpen_99 rfl ?_
        refine T.cist (x := q + 1) dX1_orderOpen_100 rfl (ok17 (by omega)) (fun _ => rfl) (by omega) (by omega) ?_
        refine T.iinc (ls' := [some (rf E 10 j 0), some (.int (iI ((n : Int) + 1))), some (.int (iI (bZ (hasB (lw m (16 + j)) 120)))), some (.int (iI (d : Int))), some (.int (iI ((q : Int) + 1)))]) dX1_orderOpen_101 rfl rfl ?_
        refine T.iinc (ls' := [some (rf E 10 j 0), some (.int (iI ((n : Int) + 1))), some (.int (iI (bZ (hasB (lw m (16 + j)) 120)))), some (.int (iI ((d : Int) + 1))), some (.int (iI ((q : Int) + 1)))]) dX1_orderOpen_104 rfl rfl ?_
        refine T.goto 14 dX1_orderOpen_107 ?_
        refine T.fgt (ls' := [some (rf E 10 j 0), some (.int (iI ((n : Int) + 1))), some (.int (iI (bZ (hasB (lw m (16 + j)) 120)))), some (.int (iI ((d : Int) + 1))), none]) (by simp [lsw]) ?_
        rw [show upT D 17 (q + 1) (d : Int) = setT S 17 (insF (cmpS (bk m (2 + j)) (lw m (16 + j)) S) o d (q + 1)) from by rw [hDe, upT_setT']; unfold insF; rw [if_neg (by rw [← e17]; show ¬ (cmpS (bk m (2 + j)) (lw m (16 + j)) S d (D 17 q).toNat < 0); omega)]]
        exact hK
      · refine T.aload_n dX1_orderOpen_71 rfl ?_
        refine T.mget (v := rf E 17 j 0) dX1_orderOpen_72 fo_X1_53 (ok10 (by omega)) rfl rfl ?_
        refine T.iload dX1_orderOpen_75 rfl ?_
        refine T.aload_n dX1_orderOpen_77 rfl ?_
        refine T.mget (v := rf E 17 j 0) dX1_orderOpen_78 fo_X1_53 (ok10 (by omega)) rfl rfl ?_
        refine T.iload dX1_orderOpen_81 rfl ?_
        refine T.iconst dX1_orderOpen_83 ?_
        refine T.isub dX1_orderOpen_84 ?_
        refine T.aI (z := D 17 q) (x := q) dX1_orderOpen_85 (ok17 (by omega)) (fun _ => rfl) (by omega) (by omega) (wrC_c rfl) ?_
        refine T.cist (x := q + 1) dX1_orderOpen_86 rfl (ok17 (by omega)) (fun _ => rfl) (by omega) (by omega) ?_
        refine T.iinc (ls' := [some (rf E 10 j 0), some (.int (iI (n : Int))), some (.int (iI (bZ (hasB (lw m (16 + j)) 120)))), some (.int (iI (d : Int))), some (.int (iI ((q : Int) + 1 + (-1))))]) dX1_orderOpen_87 rfl rfl ?_
        refine T.goto 49 dX1_orderOpen_90 ?_
        rw [show (q : Int) + 1 + (-1) = (q : Int) from by omega, show upT D 17 (q + 1) (D 17 q) = setT S 17 (upd1 o (q + 1) (o q)) from by rw [e17, hDe, upT_setT']]
        refine ih (upd1 o (q + 1) (o q)) (by omega) hn7 (fun x => by unfold upd1; split; exact ho q; exact ho x) ?_ ?_
        · rw [hDe] at hD
          exact hS.set (fun x => by unfold upd1; split; exact ho q; exact ho x)
        · rw [show insF (cmpS (bk m (2 + j)) (lw m (16 + j)) S) o d (q + 1) = insF (cmpS (bk m (2 + j)) (lw m (16 + j)) S) (upd1 o (q + 1) (o q)) d q from by conv => lhs; unfold insF; rw [if_pos (by rw [← e17]; show cmpS (bk m (2 + j)) (lw m (16 + j)) S d (D 17 q).toNat < 0; omega)]] at hK
          exact hK
set_option maxHeartbeats 4000000 in
set_option maxRecDepth 100000 in
theorem c_ord_loop (E : Ev) (m : Mem) (j : Nat) (S : PS) (hj : j < 6) (hI : Inv m) (hS : InvS kC S) (N : Nat) (hn : m 1 (2 + j) 0 1 = N) : ∀ (k : Nat) (d n : Nat) (o : Nat → Int), N - d = k → d ≤ N → ordL (okS1 (bk m (2 + j)) (lw m (16 + j)) S) (cmpS (bk m (2 + j)) (lw m (16 + j)) S) (S 17) d = (n, o) → n ≤ d → (∀ x, 0 ≤ o x ∧ o x ≤ 7) → T E 3 mX1_orderOpen 14 [some (rf E 10 j 0), some (.int (iI (n : Int))), some (.int (iI (bZ (hasB (lw m (16 + j)) 120)))), some (.int (iI (d : Int))), none] [] (hp E (wrC m j (setT S 17 o))) (fun r' h' => r' = some (.int (iI ((ordS (bk m (2 + j)) (lw m (16 + j)) S).1 : Int))) ∧ h' = hp E (wrC m j (setT S 17 (ordS (bk m (2 + j)) (lw m (16 + j)) S).2))) := by
  have hn8 : 0 ≤ m 1 (2 + j) 0 1 ∧ m 1 (2 + j) 0 1 ≤ 8 := hI 1 (2 + j) 0 1
  intro k
  induction k using Nat.strongRecOn with
  | ind k ih =>
    intro d n o hk hdn ho0 hnd ho
    obtain ⟨D, hDe⟩ : ∃ D, D = setT S 17 o := ⟨_, rfl⟩
    have hD : InvS kC (setT S 17 o) := hS.set (fun x => ho x)
    rw [← hDe] at hD ⊢
    have e10 : D 10 = S 10 := by rw [hDe, setT_d (by decide)]
    have e11 : D 11 = S 11 := by rw [hDe, setT_d (by decide)]
    have e12 : D 12 = S 12 := by rw [hDe, setT_d (by decide)]
    have e17 : D 17 = o := by rw [hDe, setT_k]
    have hcm : ∀ a b, cmpS (bk m (2 + j)) (lw m (16 + j)) D a b = cmpS (bk m (2 + j)) (lw m (16 + j)) S a b := fun a b => by unfold cmpS; rw [e10, e11, e12]
    have hop : opS (bk m (2 + j)) D (d : Int) = opS (bk m (2 + j)) S (d : Int) := by unfold opS; rw [e10, e11, e12]
    have e16 : D 16 d = S 16 d := by rw [hDe, setT_d (by decide)]
    refine T.iload_n dX1_orderOpen_14 rfl ?_
    refine T.aload_n dX1_orderOpen_15 rfl ?_
    refine T.mget (v := rf E 1 (2 + j) 0) dX1_orderOpen_16 fo_X1_12 (ok10 (by omega)) rfl rfl ?_
    refine T.gI (z := m 1 (2 + j) 0 1) dX1_orderOpen_19 fo_X1_77 (ok1 (by omega)) rfl rfl rfl ?_
    have q1 : 0 ≤ m 1 (2 + j) 0 1 ∧ m 1 (2 + j) 0 1 ≤ 8 := hI 1 (2 + j) 0 1
    refine T.icmp_ge 110 dX1_orderOpen_22 (by unfold rg; omega) (by unfold rg; omega) (fun c2 => ?_) (fun c2 => ?_)
    · refine T.iload_n dX1_orderOpen_110 rfl ?_
      exact T.iret dX1_orderOpen_111 ⟨by rw [show ordS (bk m (2 + j)) (lw m (16 + j)) S = (n, o) from by unfold ordS; rw [show ((bk m (2 + j)) 12 0).toNat = d from by show (m 1 (2 + j) 0 1).toNat = d; omega]; exact ho0], by rw [hDe, show ordS (bk m (2 + j)) (lw m (16 + j)) S = (n, o) from by unfold ordS; rw [show ((bk m (2 + j)) 12 0).toNat = d from by show (m 1 (2 + j) 0 1).toNat = d; omega]; exact ho0]⟩
    · refine T.aload_n dX1_orderOpen_25 rfl ?_
      refine T.iload_n dX1_orderOpen_26 rfl ?_
      refine T.cV1 (As := [.int (iI (d : Int))]) (st := []) dX1_orderOpen_27 lk_X1_156 (by have h0 := c_isOpen E m j D (d := (d : Int)) hj hI hD (by unfold rg; omega); rw [hop] at h0; exact h0) (ok10 (by omega)) rfl rfl (by decide) rfl rfl (Nat.le_of_ble_eq_true rfl) ?_
      refine T.ifB_eq 104 dX1_orderOpen_30 (fun c3 => ?_) (fun c3 => ?_)
      · refine T.iinc (ls' := [some (rf E 10 j 0), some (.int (iI (n : Int))), some (.int (iI (bZ (hasB (lw m (16 + j)) 120)))), some (.int (iI ((d : Int) + 1))), none]) dX1_orderOpen_104 rfl rfl ?_
        refine T.goto 14 dX1_orderOpen_107 ?_
        rw [hDe]
        exact ih (N - (d + 1)) (by omega) (d + 1) n o rfl (by omega) (by show (if (okS1 (bk m (2 + j)) (lw m (16 + j)) S) d = true then _ else _) = _; rw [if_neg (by unfold okS1; simp only [decide_eq_true_eq, Bool.and_eq_true, Bool.not_eq_true']; intro z; obtain ⟨z1, z2⟩ := z; first | contradiction | (rw [Bool.and_eq_false_iff] at z2; rcases z2 with z2 | z2 <;> simp at z2 <;> first | contradiction | omega))]; exact ho0) (by omega) ho
      · refine T.iload_n dX1_orderOpen_33 rfl ?_
        refine T.ifB_eq 46 dX1_orderOpen_34 (fun c4 => ?_) (fun c4 => ?_)
        · refine T.iload_n dX1_orderOpen_46 rfl ?_
          refine T.istore (ls' := [some (rf E 10 j 0), some (.int (iI (n : Int))), some (.int (iI (bZ (hasB (lw m (16 + j)) 120)))), some (.int (iI (d : Int))), some (.int (iI (n : Int)))]) dX1_orderOpen_47 rfl ?_
          rw [hDe]
          refine c_ord_in E m j S hj hI hS n d (by omega) _ n o (Nat.le_refl _) (by omega) ho (hS.set (fun x => ho x)) ?_
          exact ih (N - (d + 1)) (by omega) (d + 1) (n + 1) (insF (cmpS (bk m (2 + j)) (lw m (16 + j)) S) o d n) rfl (by omega) (by show (if (okS1 (bk m (2 + j)) (lw m (16 + j)) S) d = true then _ else _) = _; rw [if_pos (by unfold okS1; simp only [decide_eq_true_eq, Bool.and_eq_true, Bool.not_eq_true']; refine ⟨by assumption, ?_⟩; rw [Bool.and_eq_false_iff]; first | (left; simp; assumption) | (right; simp; omega)), ho0]) (by omega) (insF_rg (by omega) n o ho)
        · refine T.aload_n dX1_orderOpen_37 rfl ?_
          refine T.mget (v := rf E 16 j 0) dX1_orderOpen_38 fo_X1_49 (ok10 (by omega)) rfl rfl ?_
          refine T.iload_n dX1_orderOpen_41 rfl ?_
          refine T.aZ (z := D 16 d) (x := d) dX1_orderOpen_42 (ok16 (by omega)) (fun _ => rfl) rfl (by omega) (wrC_c rfl) ?_
          have q5 : 0 ≤ D 16 d ∧ D 16 d ≤ 1 := hD 16 d rfl
          refine T.if_ne 104 dX1_orderOpen_43 (by unfold rg; omega) (fun c6 => ?_) (fun c6 => ?_)
          · refine T.iinc (ls' := [some (rf E 10 j 0), some (.int (iI (n : Int))), some (.int (iI (bZ (hasB (lw m (16 + j)) 120)))), some (.int (iI ((d : Int) + 1))), none]) dX1_orderOpen_104 rfl rfl ?_
            refine T.goto 14 dX1_orderOpen_107 ?_
            rw [hDe]
            exact ih (N - (d + 1)) (by omega) (d + 1) n o rfl (by omega) (by show (if (okS1 (bk m (2 + j)) (lw m (16 + j)) S) d = true then _ else _) = _; rw [if_neg (by unfold okS1; simp only [decide_eq_true_eq, Bool.and_eq_true, Bool.not_eq_true']; intro z; obtain ⟨z1, z2⟩ := z; first | contradiction | (rw [Bool.and_eq_false_iff] at z2; rcases z2 with z2 | z2 <;> simp at z2 <;> first | contradiction | omega))]; exact ho0) (by omega) ho
          · refine T.iload_n dX1_orderOpen_46 rfl ?_
            refine T.istore (ls' := [some (rf E 10 j 0), some (.int (iI (n : Int))), some (.int (iI (bZ (hasB (lw m (16 + j)) 120)))), some (.int (iI (d : Int))), some (.int (iI (n : Int)))]) dX1_orderOpen_47 rfl ?_
            rw [hDe]
            refine c_ord_in E m j S hj hI hS n d (by omega) _ n o (Nat.le_refl _) (by omega) ho (hS.set (fun x => ho x)) ?_
            exact ih (N - (d + 1)) (by omega) (d + 1) (n + 1) (insF (cmpS (bk m (2 + j)) (lw m (16 + j)) S) o d n) rfl (by omega) (by show (if (okS1 (bk m (2 + j)) (lw m (16 + j)) S) d = true then _ else _) = _; rw [if_pos (by unfold okS1; simp only [decide_eq_true_eq, Bool.and_eq_true, Bool.not_eq_true']; refine ⟨by assumption, ?_⟩; rw [Bool.and_eq_false_iff]; first | (left; simp; assumption) | (right; simp; omega)), ho0]) (by omega) (insF_rg (by omega) n o ho)
set_option maxHeartbeats 4000000 in
set_option maxRecDepth 100000 in
theorem c_orderOpen (E : Ev) (m : Mem) (j : Nat) (S : PS) (hj : j < 6) (hI : Inv m) (hS : InvS kC S) : CT E 3 mX1_orderOpen [rf E 10 j 0] (hp E (wrC m j S)) (some (.int (iI ((ordS (bk m (2 + j)) (lw m (16 + j)) S).1 : Int)))) (hp E (wrC m j (setT S 17 (ordS (bk m (2 + j)) (lw m (16 + j)) S).2))) := by
  refine CT.go okX1_orderOpen (Nat.le_of_ble_eq_true rfl) ?_
  show T E 3 mX1_orderOpen 0 [some (rf E 10 j 0), none, none, none, none] [] (hp E (wrC m j S)) _
  have hn8 : 0 ≤ m 1 (2 + j) 0 1 ∧ m 1 (2 + j) 0 1 ≤ 8 := hI 1 (2 + j) 0 1
  refine T.iconst dX1_orderOpen_0 ?_
  refine T.istore_n (ls' := [some (rf E 10 j 0), some (.int (iI 0)), none, none, none]) dX1_orderOpen_1 rfl ?_
  refine T.aload_n dX1_orderOpen_2 rfl ?_
  refine T.mget (v := rf E 8 (16 + j) 0) dX1_orderOpen_3 fo_X1_21 (ok10 (by omega)) rfl rfl ?_
  refine T.bipush dX1_orderOpen_6 ?_
  refine T.cV1 (As := [.int (iI 120)]) (st := []) dX1_orderOpen_8 lk_X1_160 (show CT E 1 mX3_has _ _ (some (.int (iI (bZ (hasB (lw m (16 + j)) 120))))) _ from c_has E (wrC m j S) (16 + j) 120 (by omega) (by decide) (hI.wrC hS)) (ok8 (by omega)) rfl rfl (by decide) rfl rfl (Nat.le_of_ble_eq_true rfl) ?_
  refine T.istore_n (ls' := [some (rf E 10 j 0), some (.int (iI 0)), some (.int (iI (bZ (hasB (lw m (16 + j)) 120)))), none, none]) dX1_orderOpen_11 rfl ?_
  refine T.iconst dX1_orderOpen_12 ?_
  refine T.istore_n (ls' := [some (rf E 10 j 0), some (.int (iI 0)), some (.int (iI (bZ (hasB (lw m (16 + j)) 120)))), some (.int (iI 0)), none]) dX1_orderOpen_13 rfl ?_
  have h0 := c_ord_loop E m j S hj hI hS _ (Int.toNat_of_nonneg hn8.1).symm _ 0 0 (S 17) rfl (Nat.zero_le _) rfl (Nat.le_refl _) (fun x => hS 17 x rfl)
  rw [setT_self] at h0
  exact h0
