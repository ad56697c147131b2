def kL (rd : Nat → Int) (n : Nat) : Nat := (hmL rd 99 n).toNat + (hmL rd 116 n).toNat + (hmL rd 115 n).toNat + (hmL rd 120 n).toNat + (hmL rd 112 n).toNat + (hmL rd 100 n).toNat + (hmL rd 104 n).toNat + (hmL rd 117 n).toNat + (hmL rd 111 n).toNat + (hmL rd 108 n).toNat
theorem hmL_up {rd : Nat → Int} {b c : Int} {x : Nat} : ∀ n, n ≤ x → hmL (upd1 rd x b) c n = hmL rd c n
  | 0, _ => rfl
  | n + 1, h => by
    unfold hmL
    rw [hmL_up n (by omega)]
    unfold upd1
    rw [if_neg (by omega)]
theorem hmL_ad {rd : Nat → Int} {b c : Int} {n : Nat} : hmL (upd1 rd n b) c (n + 1) = (hmL rd c n || decide (b = c)) := by
  show (hmL (upd1 rd n b) c n || decide (upd1 rd n b n = c)) = _
  rw [hmL_up n (Nat.le_refl n)]
  unfold upd1
  rw [if_pos rfl]
theorem hmL_cg {f g : Nat → Int} {c : Int} : ∀ n, (∀ k, k < n → f k = g k) → hmL f c n = hmL g c n
  | 0, _ => rfl
  | n + 1, h => by
    unfold hmL
    rw [hmL_cg n (fun k hk => h k (by omega)), h n (by omega)]
theorem kL_ad {rd : Nat → Int} {b : Int} {n : Nat} (hb : isLt b) (hn : hmL rd b n = false) : kL (upd1 rd n b) (n + 1) = kL rd n + 1 := by
  unfold kL
  simp only [hmL_ad]
  unfold isLt at hb
  rcases hb with rfl | rfl | rfl | rfl | rfl | rfl | rfl | rfl | rfl | rfl <;> simp [hn] <;> omega
theorem bt1 (b : Bool) : b.toNat ≤ 1 := by cases b <;> decide
theorem kL_lt {rd : Nat → Int} {b : Int} {n : Nat} (hb : isLt b) (hn : hmL rd b n = false) : kL rd n < 10 := by
  unfold kL
  have h1 := bt1 (hmL rd 99 n)
  have h2 := bt1 (hmL rd 116 n)
  have h3 := bt1 (hmL rd 115 n)
  have h4 := bt1 (hmL rd 120 n)
  have h5 := bt1 (hmL rd 112 n)
  have h6 := bt1 (hmL rd 100 n)
  have h7 := bt1 (hmL rd 104 n)
  have h8 := bt1 (hmL rd 117 n)
  have h9 := bt1 (hmL rd 111 n)
  have h10 := bt1 (hmL rd 108 n)
  unfold isLt at hb
  rcases hb with rfl | rfl | rfl | rfl | rfl | rfl | rfl | rfl | rfl | rfl <;> rw [hn] at * <;> simp only [Bool.toNat_false] at * <;> omega
/-- the bits are of the letters read -/
def BtR (s : Nat) (rd : Nat → Int) (n : Nat) : Prop := ∀ c : Nat, 97 ≤ c → c ≤ 122 → s.testBit (c - 97) = hmL rd c n
theorem lwF_stop {tp : Nat → Int} {f i n : Nat} {wr : Int} {rd : Nat → Int} (h : 0 ≤ wr) : lwF tp f i n wr rd = (n, wr, rd) := by
  cases f with
  | zero => rfl
  | succ f => unfold lwF; rw [if_pos h]
theorem rdL_stop {tp : Nat → Int} {f i n s : Nat} {lt : Nat → Int} (h : ¬ n < 10) : rdL tp f i n s lt = (n, s, lt) := by
  cases f with
  | zero => rfl
  | succ f => unfold rdL; rw [if_neg h]
theorem law_sim {tp tq : Nat → Int} : ∀ (f i n s : Nat) (rd lt : Nat → Int), (∀ x, i ≤ x → x < i + f → tq x = tp x) → BtR s rd n → (s = 0 ↔ n = 0) → kL rd n = n → n ≤ 10 → s < 67108864 → (∀ k, k < n → lt k = rd k) → (∀ k, 0 ≤ lt k ∧ lt k ≤ 127) → (∀ k, 0 ≤ rd k ∧ rd k ≤ 127) →
    (∀ k, 0 ≤ (lwF tq f i n (-1) rd).2.2 k ∧ (lwF tq f i n (-1) rd).2.2 k ≤ 127) ∧ ((∃ j : Nat, faL tp f i s = -20 - (j : Int) ∧ ((lwF tq f i n (-1) rd).2.1 = j ∨ ((lwF tq f i n (-1) rd).2.1 = -1 ∧ (lwF tq f i n (-1) rd).1 = 0 ∧ j = i + f))) ∨ (faL tp f i s = 0 ∧ (lwF tq f i n (-1) rd).2.1 = -1 ∧ (lwF tq f i n (-1) rd).1 ≠ 0 ∧ (lwF tq f i n (-1) rd).1 ≤ 10 ∧ (rdL tp f i n s lt).1 = (lwF tq f i n (-1) rd).1 ∧ (rdL tp f i n s lt).2.1 < 67108864 ∧ BtR (rdL tp f i n s lt).2.1 (lwF tq f i n (-1) rd).2.2 (lwF tq f i n (-1) rd).1 ∧ (∀ k, k < (lwF tq f i n (-1) rd).1 → (rdL tp f i n s lt).2.2 k = (lwF tq f i n (-1) rd).2.2 k) ∧ ∀ k, 0 ≤ (rdL tp f i n s lt).2.2 k ∧ (rdL tp f i n s lt).2.2 k ≤ 127))
  | 0, i, n, s, rd, lt, ht, hb, hz, hk, hn, hs, hl, hr, hd => by
    refine ⟨hd, ?_⟩
    by_cases c : s = 0
    · refine Or.inl ⟨i, by unfold faL; rw [if_pos c], Or.inr ⟨rfl, hz.mp c, rfl⟩⟩
    · exact Or.inr ⟨by unfold faL; rw [if_neg c], rfl, fun h => c (hz.mpr h), hn, rfl, hs, hb, hl, hr⟩
  | f + 1, i, n, s, rd, lt, ht, hb, hz, hk, hn, hs, hl, hr, hd => by
    have e := ht i (by omega) (by omega)
    have ht2 : ∀ x, i + 1 ≤ x → x < i + 1 + f → tq x = tp x := fun x h1 h2 => ht x (by omega) (by omega)
    unfold faL lwF rdL
    rw [if_neg (show ¬ (0 : Int) ≤ -1 by omega), e]
    by_cases c : tp i = 32
    · have g : ¬ gdR rd (tp i) n := fun h => by
        have := isLt_rg h.1.1
        omega
      rw [if_pos c, if_neg g, if_pos c]
      by_cases c10 : n < 10
      · rw [if_pos c10, if_pos c]
        have := law_sim f (i + 1) n s rd lt ht2 hb hz hk hn hs hl hr hd
        rw [show i + (f + 1) = i + 1 + f by omega]
        exact this
      · rw [if_neg c10]
        have := law_sim f (i + 1) n s rd lt ht2 hb hz hk hn hs hl hr hd
        rw [rdL_stop c10] at this
        rw [show i + (f + 1) = i + 1 + f by omega]
        exact this
    · rw [if_neg c]
      by_cases w : ¬ isLt (tp i) ∨ s &&& btN (tp i) ≠ 0
      · rw [if_pos w]
        have g : ¬ gdR rd (tp i) n := fun h => by
          rcases w with w | w
          · exact w h.1.1
          · have q := isLt_rg h.1.1
            have b := hb (tp i).toNat (by omega) (by omega)
            rw [show (((tp i).toNat : Nat) : Int) = tp i by omega, h.2] at b
            exact w (and_bt.mpr (by rw [show (tp i - 97).toNat = (tp i).toNat - 97 by omega]; exact b))
        rw [if_neg g, if_neg c, lwF_stop (by omega)]
        exact ⟨hd, Or.inl ⟨i, rfl, Or.inl rfl⟩⟩
      · rw [if_neg w]
        have w1 : isLt (tp i) := Classical.byContradiction fun h => w (Or.inl h)
        have w2 : s &&& btN (tp i) = 0 := Classical.byContradiction fun h => w (Or.inr h)
        have q := isLt_rg w1
        have w3 : hmL rd (tp i) n = false := by
          have b := hb (tp i).toNat (by omega) (by omega)
          rw [show (((tp i).toNat : Nat) : Int) = tp i by omega] at b
          rw [← b, show (tp i).toNat - 97 = (tp i - 97).toNat by omega]
          exact and_bt.mp w2
        have w4 := kL_lt w1 w3
        have w5 := btN_lt (c := tp i) (by omega)
        rw [if_pos (show gdR rd (tp i) n from ⟨⟨w1, by omega⟩, w3⟩), if_pos (show n < 10 by omega)]
        simp only [if_neg c]
        have rr : ∀ (z : Nat → Int), (∀ k, 0 ≤ z k ∧ z k ≤ 127) → ∀ k, 0 ≤ upd1 z n (tp i) k ∧ upd1 z n (tp i) k ≤ 127 := fun z hz k => by
          unfold upd1
          split
          · omega
          · exact hz k
        have := law_sim f (i + 1) (n + 1) (s ||| btN (tp i)) (upd1 rd n (tp i)) (upd1 lt n (tp i)) ht2 (fun x h1 h2 => ?_) ⟨fun h => ?_, fun h => by omega⟩ (by rw [kL_ad w1 w3]; omega) (by omega) (or_lt26 hs w5.2) (fun k hk2 => ?_) (rr lt hr) (rr rd hd)
        · rw [show i + (f + 1) = i + 1 + f by omega]
          exact this
        · rw [hmL_ad, Nat.testBit_or, hb x h1 h2]
          unfold btN
          rw [Nat.testBit_two_pow]
          congr 1
          by_cases e2 : tp i = x
          · simp [e2]; omega
          · rw [decide_eq_false e2, decide_eq_false (by omega)]
        · have : s ||| btN (tp i) ≥ btN (tp i) := Nat.right_le_or
          omega
        · unfold upd1
          split
          · rfl
          · exact hl k (by omega)
theorem lcL_36 {D : PS} {l : Nat} : ∀ n x, lcL D l n 36 x = if 12 * l ≤ x ∧ x < 12 * l + n then D 38 (x - 12 * l) else D 36 x
  | 0, x => by rw [if_neg (by omega)]; rfl
  | n + 1, x => by
    show upT (lcL D l n) 36 (12 * l + n) (D 38 n) 36 x = _
    by_cases e : x = 12 * l + n
    · subst e
      rw [upT_self, if_pos (by omega), show 12 * l + n - 12 * l = n by omega]
    · rw [upT_x e, lcL_36 n x]
      by_cases c : 12 * l ≤ x ∧ x < 12 * l + n
      · rw [if_pos c, if_pos (by omega)]
      · rw [if_neg c, if_neg (by omega)]
theorem bit_int {s k : Nat} : ((s : Int) / 2 ^ k % 2 = 1) ↔ s.testBit k = true := by
  rw [Nat.testBit_eq_decide_div_mod_eq, decide_eq_true_iff, show (s : Int) / 2 ^ k % 2 = ((s / 2 ^ k % 2 : Nat) : Int) by simp]
  omega
theorem lawM_k {m : Mem} {l : Int} {k : Nat} (h : k ≠ 8 ∧ k ≠ 9 ∧ k ≠ 24) : lawM m l k = m k := by
  unfold lawM readM
  split
  · rfl
  · split
    · rw [upK h.2.2, rdM_o ⟨h.1, h.2.1⟩]
    · rw [upK h.2.2]
/-- the laws alone are changed -/
theorem RlA.lw {m m' : Mem} {S S' : PS} (h : RlA m S) (hL : RlL m' S') (hm : ∀ k, k ≠ 8 → k ≠ 9 → m' k = m k) (h8 : ∀ q, 2 ≤ q → m' 8 q = m 8 q) (h9 : ∀ q, 2 ≤ q → m' 9 q = m 9 q) (hS : ∀ k, k ≠ 36 → k ≠ 37 → S' k = S k) : RlA m' S' := by
  obtain ⟨a, b, c, d, e⟩ := h
  have q : ∀ k j, k ≠ 8 → k ≠ 9 → m' k j = m k j := fun k j h1 h2 => congrFun (hm k h1 h2) j
  have h29 : ∀ x, S' 29 x = S 29 x := fun x => congrFun (hS 29 (by omega) (by omega)) x
  exact ⟨a.c (bk_congr (q _ _ (by omega) (by omega)) (q _ _ (by omega) (by omega)) (q _ _ (by omega) (by omega)) (q _ _ (by omega) (by omega))) (bkM_congr (hS _ (by omega) (by omega)) (hS _ (by omega) (by omega)) (h29 _) (h29 _)), hL, c.c (by rw [hm 24 (by omega) (by omega)]) (by rw [hm 25 (by omega) (by omega)]) (h29 _) (hS _ (by omega) (by omega)), d.c (hm _ (by omega) (by omega)) (hm _ (by omega) (by omega)) (hS _ (by omega) (by omega)) (hS _ (by omega) (by omega)) (hS _ (by omega) (by omega)), e.c (by rw [hm 0 (by omega) (by omega)]) (bk_congr (q _ _ (by omega) (by omega)) (q _ _ (by omega) (by omega)) (q _ _ (by omega) (by omega)) (q _ _ (by omega) (by omega))) (fun l _ => lw_congr (h8 _ (by omega)) (h9 _ (by omega))) (h29 _) (hS _ (by omega) (by omega))⟩
theorem s_law : Sim_law := by
  intro l hl
  refine simC fun m S hI hA hS hO => ?_
  by_cases c1 : ¬ (0 ≤ l ∧ l ≤ 1)
  · unfold lawR lawM nlawR nlawS
    simp only [if_pos c1]; exact ⟨hI, fun _ _ => trivial, trivial, hS, hA⟩
  obtain ⟨q, rfl⟩ : ∃ q : Nat, l = q := ⟨l.toNat, by omega⟩
  have hT := hA.2.2.1
  have e : m 24 0 0 1 = S 29 5 := hT.1
  have b : 0 ≤ m 24 0 0 1 ∧ m 24 0 0 1 ≤ 40 := hI 24 0 0 1
  have hm0 : ∀ k, 29 ≤ k → lawM m (q : Int) k = m k := fun k hk => lawM_k (by omega)
  obtain ⟨hrd, hcs⟩ := law_sim (tp := m 25 0 0) (tq := S 34) (S 29 5).toNat 0 0 0 (S 38) (m 9 q 0) (fun x _ hx => (hT.2 x (by omega)).symm) (fun c _ _ => by rw [Nat.zero_testBit]; rfl) (by simp) rfl (by omega) (by omega) (fun k hk => by omega) (fun k => hI 9 q 0 k) (fun k => hS 38 k rfl)
  have hS2 : InvS kM (setT S 38 (lwF (S 34) (S 29 5).toNat 0 0 (-1) (S 38)).2.2) := by
    intro k x hk
    by_cases c : k = 38
    · subst c; rw [setT_k]; exact hrd x
    · rw [setT_d c]; exact hS k x hk
  have hfa : fauR m = faL (m 25 0 0) (S 29 5).toNat 0 0 := by unfold fauR; rw [e]
  revert hm0
  unfold lawR lawM nlawR nlawS lwR lwS readM
  rw [hfa, e]
  simp only [if_neg c1, Int.toNat_natCast, show 2 * 0 + q = q by omega]
  generalize hF : lwF (S 34) (S 29 5).toNat 0 0 (-1) (S 38) = F at *
  generalize hG : faL (m 25 0 0) (S 29 5).toNat 0 0 = g at *
  generalize hR : rdL (m 25 0 0) (S 29 5).toNat 0 0 0 (m 9 q 0) = R at *
  intro hm0
  have hA2 : RlA (up m 24 0 0 1 0) (upT (setT S 38 F.2.2) 29 5 0) := by
    refine hA.tp ⟨by rw [up_self, upT_self], fun i hi => by rw [up_self] at hi; omega⟩ (fun k h1 h2 => upK h1) (fun k h1 h2 h3 => by rw [upT_kk h1, setT_d h3]) (fun x hx => by rw [upT_x hx, setT_d (by omega)])
  have hI2 : Inv (up m 24 0 0 1 0) := hI.up (show 0 ≤ (0 : Int) ∧ (0 : Int) ≤ 40 by omega)
  have hS3 : InvS kM (upT (setT S 38 F.2.2) 29 5 0) := hS2.up (show 0 ≤ (0 : Int) ∧ (0 : Int) ≤ 40 by omega)
  rcases hcs with ⟨j, hj, hcs⟩ | ⟨h0, h1, h2, h3, h4, h5, h6, h7, h8⟩
  · have hE : lwE (setT S 38 F.2.2) F.1 F.2.1 = j := by
      unfold lwE
      rcases hcs with h | ⟨h, h2, h3⟩
      · rw [if_neg (by omega), h]
      · rw [if_pos (by omega), setT_d (by omega)]; omega
    rw [hE]
    simp only [if_neg (show ¬ g = 0 by omega), if_pos (show 0 ≤ (j : Int) by omega)] at hm0 ⊢
    exact ⟨hI2, hm0, hj, hS3, hA2⟩
  · have hE : lwE (setT S 38 F.2.2) F.1 F.2.1 = -1 := by
      unfold lwE
      rw [if_neg (by omega), h1]
    rw [hE]
    simp only [if_pos h0, if_neg (show ¬ 0 ≤ (-1 : Int) by omega)] at hm0 ⊢
    have hI3 : Inv (rdM m q R.1 R.2.1 R.2.2) := rdM_inv hI (by omega) h5 h8
    refine ⟨hI3.up (show 0 ≤ (0 : Int) ∧ (0 : Int) ≤ 40 by omega), hm0, by rw [rdM_1]; omega, ?_, hA2.lw ?_ ?_ ?_ ?_ ?_⟩
    · refine InvS.up (fun k x hk => ?_) (show 0 ≤ ((F.1 : Nat) : Int) ∧ ((F.1 : Nat) : Int) ≤ 12 by omega)
      by_cases c : k = 36
      · subst c
        rw [lcL_36]
        split
        · rw [upT_k (by omega), setT_k]; exact hrd _
        · exact hS3 36 x hk
      · rw [lcL_k c]; exact hS3 k x hk
    · intro z hz
      have lc37 : ∀ x, lcL (upT (setT S 38 F.2.2) 29 5 0) q F.1 37 x = S 37 x := fun x => by rw [lcL_k (by omega), upT_k (by omega), setT_d (by omega)]
      by_cases c : z = q
      · subst c
        have e36 : ∀ k, k < F.1 → upT (lcL (upT (setT S 38 F.2.2) 29 5 0) z F.1) 37 z F.1 36 (12 * z + k) = F.2.2 k := fun k hk => by
          rw [upT_k (by omega), lcL_36, if_pos (by omega), upT_k (by omega), setT_k, show 12 * z + k - 12 * z = k by omega]
        rw [upT_self]
        have x0 : lw (up (rdM m z R.1 R.2.1 R.2.2) 24 0 0 1 0) z 0 0 = F.1 := by
          show up (rdM m z R.1 R.2.1 R.2.2) 24 0 0 1 0 8 z 0 1 = _
          rw [upK (by omega), rdM_1, h4]
        have x1 : lw (up (rdM m z R.1 R.2.1 R.2.2) 24 0 0 1 0) z 1 0 = R.2.1 := by
          show up (rdM m z R.1 R.2.1 R.2.2) 24 0 0 1 0 8 z 0 2 = _
          rw [upK (by omega), rdM_2]
        have x2 : ∀ k, lw (up (rdM m z R.1 R.2.1 R.2.2) 24 0 0 1 0) z 2 k = R.2.2 k := fun k => by
          show up (rdM m z R.1 R.2.1 R.2.2) 24 0 0 1 0 9 z 0 k = _
          rw [upK (by omega), rdM_9]
        refine ⟨x0, fun k hk => ?_, fun x hx1 hx2 => ?_⟩
        · rw [x2]
          show R.2.2 k = upT (lcL (upT (setT S 38 F.2.2) 29 5 0) z F.1) 37 z F.1 36 (12 * z + k)
          rw [e36 k (by omega)]
          exact h7 k (by omega)
        · unfold hasB
          rw [x1, bit_int, h6 x hx1 hx2, Int.toNat_natCast, hmL_cg F.1 (f := fun k => upT (lcL (upT (setT S 38 F.2.2) 29 5 0) z F.1) 37 z F.1 36 (12 * z + k)) (g := F.2.2) e36]
      · have hz2 := hA.2.1 z hz
        rw [upT_x c, lc37]
        have e36 : (fun k => upT (lcL (upT (setT S 38 F.2.2) 29 5 0) q F.1) 37 q F.1 36 (12 * z + k)) = fun k => if 12 * q ≤ 12 * z + k ∧ 12 * z + k < 12 * q + F.1 then F.2.2 (12 * z + k - 12 * q) else S 36 (12 * z + k) := by
          funext k
          rw [upT_k (by omega), lcL_36, upT_k (by omega), setT_k, upT_k (by omega), setT_d (by omega)]
        rw [e36]
        have b37 : 0 ≤ S 37 z ∧ S 37 z ≤ 12 := hS 37 z rfl
        have b8 : 0 ≤ m 8 z 0 1 ∧ m 8 z 0 1 ≤ 10 := hI 8 z 0 1
        have e8 : m 8 z 0 1 = S 37 z := hz2.1
        have lwz : lw (up (rdM m q R.1 R.2.1 R.2.2) 24 0 0 1 0) z = lw m z := by
          refine lw_congr ?_ ?_
          · rw [upK (by omega)]
            unfold rdM
            funext i x
            unfold updS
            rw [if_neg (by omega), up_kj (by omega), up_kj (by omega)]
          · rw [upK (by omega)]
            unfold rdM
            funext i x
            unfold updS
            rw [if_neg (by omega), up_kj (by omega), up_kj (by omega)]
        rw [lwz]
        refine ⟨hz2.1, fun k hk => ?_, fun x hx1 hx2 => ?_⟩
        · show lw m z 2 k = if 12 * q ≤ 12 * z + k ∧ 12 * z + k < 12 * q + F.1 then F.2.2 (12 * z + k - 12 * q) else S 36 (12 * z + k)
          rw [if_neg (by omega)]
          exact hz2.2.1 k hk
        · rw [hmL_cg (S 37 z).toNat (g := fun k => S 36 (12 * z + k)) (fun k hk => by rw [if_neg (by omega)])]
          exact hz2.2.2 x hx1 hx2
    · intro k k8 k9
      by_cases c : k = 24
      · subst c
        funext j i x
        unfold up
        rw [rdM_o (by omega)]
      · rw [upK c, upK c, rdM_o ⟨k8, k9⟩]
    · intro z hz
      rw [upK (by omega), upK (by omega)]
      unfold rdM
      funext i x
      unfold updS
      rw [if_neg (by omega), up_kj (by omega), up_kj (by omega)]
    · intro z hz
      rw [upK (by omega), upK (by omega)]
      unfold rdM
      funext i x
      unfold updS
      rw [if_neg (by omega), up_kj (by omega), up_kj (by omega)]
    · intro k k6 k7
      rw [upT_kk k7, lcL_k k6]
