theorem giveT_k {S : PS} {d : Nat} {ts tr : Int} {k : Nat} (h : k ≠ 11 ∧ k ≠ 12 ∧ k ≠ 13 ∧ k ≠ 18 ∧ k ≠ 19) : giveT S d ts tr k = S k := by
  funext x
  unfold giveT
  rw [upT_k h.2.2.1, upT_k h.2.2.2.2, upT_k h.2.2.2.1, upT_k h.2.1, upT_k h.1]
theorem giveS_k {L S : PS} {d : Nat} {a : Int} {k : Nat} (h : k ≠ 11 ∧ k ≠ 12 ∧ k ≠ 13 ∧ k ≠ 14 ∧ k ≠ 15 ∧ k ≠ 18 ∧ k ≠ 19) : giveS L S d a k = S k := by
  unfold giveS
  split
  · rfl
  · unfold giveP
    have h2 : ∀ ts tr, giveW S d (giveT S d ts tr) k = S k := fun ts tr => by
      unfold giveW
      split
      · funext x; rw [upT_k h.2.2.2.2.1, giveT_k ⟨h.1, h.2.1, h.2.2.1, h.2.2.2.2.2.1, h.2.2.2.2.2.2⟩]
      · exact giveT_k ⟨h.1, h.2.1, h.2.2.1, h.2.2.2.2.2.1, h.2.2.2.2.2.2⟩
    split
    · funext x; rw [upT_k h.2.2.2.1, h2]
    · exact h2 _ _
theorem gvS_rg {L S : PS} {d : Nat} {g : Int} (h1 : 0 ≤ S 11 d) (h2 : 0 ≤ S 12 d) (hg : 0 < g) (hg2 : g ≤ S 11 d + S 12 d) : 0 ≤ gvS L S d g ∧ gvS L S d g ≤ S 11 d ∧ 0 ≤ g - gvS L S d g ∧ g - gvS L S d g ≤ S 12 d := by
  unfold gvS
  split <;> omega
theorem giveS_inv {L S : PS} (d : Nat) (a : Int) (h : InvS kC S) : InvS kC (giveS L S d a) := by
  have q1 : 0 ≤ S 11 d ∧ S 11 d ≤ 99990000 := h 11 d rfl
  have q2 : 0 ≤ S 12 d ∧ S 12 d ≤ 4000000000 := h 12 d rfl
  have q3 : 0 ≤ S 10 2 ∧ S 10 2 ≤ 299 := h 10 2 rfl
  unfold giveS
  split
  · exact h
  · rename_i hg
    have hg1 : 0 < gvn S d a := by omega
    have hg2 : gvn S d a ≤ S 11 d + S 12 d := by unfold gvn; omega
    obtain ⟨r1, r2, r3, r4⟩ := gvS_rg (L := L) q1.1 q2.1 hg1 hg2
    have i1 : InvS kC (giveT S d (gvS L S d (gvn S d a)) (gvn S d a - gvS L S d (gvn S d a))) := by
      unfold giveT
      refine InvS.up (InvS.up (InvS.up (InvS.up (InvS.up h ?_) ?_) ?_) ?_) ?_
      · show 0 ≤ _ ∧ _ ≤ (99990000 : Int); omega
      · show 0 ≤ _ ∧ _ ≤ (4000000000 : Int); omega
      · trivial
      · trivial
      · show -1 ≤ _ ∧ _ ≤ (299 : Int); omega
    have i2 : InvS kC (giveW S d (giveT S d (gvS L S d (gvn S d a)) (gvn S d a - gvS L S d (gvn S d a)))) := by
      unfold giveW
      split
      · exact i1.up (by show -1 ≤ _ ∧ _ ≤ (299 : Int); omega)
      · exact i1
    unfold giveP
    split
    · exact i2.up (by show -1 ≤ _ ∧ _ ≤ (299 : Int); omega)
    · exact i2
theorem giveR_bd {S : PS} (d : Nat) (a : Int) (h : InvS kC S) : 0 ≤ giveR S d a ∧ giveR S d a ≤ 4099990000 := by
  have q1 : 0 ≤ S 11 d ∧ S 11 d ≤ 99990000 := h 11 d rfl
  have q2 : 0 ≤ S 12 d ∧ S 12 d ≤ 4000000000 := h 12 d rfl
  unfold giveR gvn
  split <;> omega
theorem allL_bd {S : PS} (fr : Nat) (h : InvS kC S) : ∀ k : Nat, 0 ≤ allL S fr k ∧ allL S fr k ≤ 4099990000 * k
  | 0 => by unfold allL; omega
  | k + 1 => by
    have q1 : 0 ≤ S 11 (S 17 (fr + k)).toNat ∧ S 11 (S 17 (fr + k)).toNat ≤ 99990000 := h 11 _ rfl
    have q2 : 0 ≤ S 12 (S 17 (fr + k)).toNat ∧ S 12 (S 17 (fr + k)).toNat ≤ 4000000000 := h 12 _ rfl
    have := allL_bd fr h k
    unfold allL
    omega
theorem mul_bd {a b A B : Int} (h1 : 0 ≤ a) (h2 : a ≤ A) (h3 : 0 ≤ b) (h4 : b ≤ B) : 0 ≤ a * b ∧ a * b ≤ A * B := ⟨Int.mul_nonneg h1 h3, Int.mul_le_mul h2 h4 h3 (by omega)⟩
theorem div_bd {x y : Int} (h1 : 0 ≤ x) (h2 : 0 < y) : 0 ≤ x / y ∧ x / y ≤ x := ⟨Int.ediv_nonneg h1 (by omega), Int.ediv_le_self y h1⟩
theorem updS_up {m : Mem} {k j i x : Nat} {g : Nat → Int} {v : Int} : up (updS m k j i g) k j i x v = updS m k j i (upd1 g x v) := by
  rw [up_S]
  funext k' j' i'
  unfold updS
  split <;> simp_all
theorem updS_self {m : Mem} {k j i : Nat} : updS m k j i (m k j i) = m := by
  funext k' j' i'
  unfold updS
  split <;> simp_all
theorem fil0_0 {g : Nat → Int} {v : Int} : fil0 g 0 v = g := by funext x; simp [fil0]
theorem fil0_s {g : Nat → Int} {n : Nat} {v : Int} : upd1 (fil0 g n v) n v = fil0 g (n + 1) v := by
  funext x
  unfold upd1 fil0
  by_cases h : x = n
  · subst h; simp
  · by_cases h2 : x < n
    · simp [h, h2, show x < n + 1 by omega]
    · simp [h, h2, show ¬ x < n + 1 by omega]
set_option maxHeartbeats 4000000 in
set_option maxRecDepth 100000 in
theorem c_fillL_loop (E : Ev) (m : Mem) (k j i n : Nat) (v : Int) (ho : okC k j i) (hs : ∀ g, shape E k j i g = longs E n g) (hn : n ≤ 1000) : ∀ (c x : Nat), n - x = c → x ≤ n → T E 1 mJ7_fill_d0a16 6 [some (rf E k j i), some (.long (lI v)), none, some (.int (iI (x : Int))), some (.int (iI (n : Int)))] [] (hp E (updS m k j i (fil0 (m k j i) x v))) (fun r' h' => r' = none ∧ h' = hp E (updS m k j i (fil0 (m k j i) n v))) := by
  intro c
  induction c using Nat.strongRecOn with
  | ind c ih =>
    intro x hc hx
    refine T.iload_n dJ7_fill_d0a16_6 rfl ?_
    refine T.iload dJ7_fill_d0a16_7 rfl ?_
    refine T.icmp_ge 22 dJ7_fill_d0a16_9 (by unfold rg; omega) (by unfold rg; omega) (fun c1 => ?_) (fun c1 => ?_)
    · exact T.vret dJ7_fill_d0a16_22 ⟨rfl, by rw [show x = n from by omega]⟩
    · refine T.aload_n dJ7_fill_d0a16_12 rfl ?_
      refine T.iload_n dJ7_fill_d0a16_13 rfl ?_
      refine T.lload_n dJ7_fill_d0a16_14 rfl ?_
      refine T.mlst (x := x) dJ7_fill_d0a16_15 ho hs rfl (by omega) ?_ (by omega)
      rw [updS_up, fil0_s]
      refine T.iinc (ls' := [some (rf E k j i), some (.long (lI v)), none, some (.int (iI ((x : Int) + 1))), some (.int (iI (n : Int)))]) dJ7_fill_d0a16_16 rfl rfl ?_
      refine T.goto 6 dJ7_fill_d0a16_19 ?_
      exact ih (n - (x + 1)) (by omega) (x + 1) rfl (by omega)
set_option maxHeartbeats 4000000 in
set_option maxRecDepth 100000 in
theorem c_fillL (E : Ev) (m : Mem) (k j i n : Nat) (v : Int) (ho : okC k j i) (hs : ∀ g, shape E k j i g = longs E n g) (hn : n ≤ 1000) : CT E 1 mJ7_fill_d0a16 [rf E k j i, .long (lI v)] (hp E m) none (hp E (updS m k j i (fil0 (m k j i) n v))) := by
  refine CT.go okJ7_fill_d0a16 (Nat.le_of_ble_eq_true rfl) ?_
  show T E 1 mJ7_fill_d0a16 0 [some (rf E k j i), some (.long (lI v)), none, none, none] [] (hp E m) _
  refine T.iconst dJ7_fill_d0a16_0 ?_
  refine T.istore_n (ls' := [some (rf E k j i), some (.long (lI v)), none, some (.int (iI 0)), none]) dJ7_fill_d0a16_1 rfl ?_
  refine T.aload_n dJ7_fill_d0a16_2 rfl ?_
  refine T.mlenL (n := n) dJ7_fill_d0a16_3 ho hs ?_
  refine T.istore (ls' := [some (rf E k j i), some (.long (lI v)), none, some (.int (iI 0)), some (.int (iI (n : Int)))]) dJ7_fill_d0a16_4 rfl ?_
  have h0 := c_fillL_loop E m k j i n v ho hs hn n 0 rfl (Nat.zero_le _)
  rw [fil0_0, updS_self] at h0
  exact h0
set_option maxHeartbeats 4000000 in
set_option maxRecDepth 100000 in
theorem c_fillI_loop (E : Ev) (m : Mem) (k j i n : Nat) (v : Int) (ho : okC k j i) (hs : ∀ g, shape E k j i g = ints E n g) (hn : n ≤ 1000) : ∀ (c x : Nat), n - x = c → x ≤ n → T E 1 mJ7_fill_53178 5 [some (rf E k j i), some (.int (iI v)), some (.int (iI (x : Int))), some (.int (iI (n : Int)))] [] (hp E (updS m k j i (fil0 (m k j i) x v))) (fun r' h' => r' = none ∧ h' = hp E (updS m k j i (fil0 (m k j i) n v))) := by
  intro c
  induction c using Nat.strongRecOn with
  | ind c ih =>
    intro x hc hx
    refine T.iload_n dJ7_fill_53178_5 rfl ?_
    refine T.iload_n dJ7_fill_53178_6 rfl ?_
    refine T.icmp_ge 20 dJ7_fill_53178_7 (by unfold rg; omega) (by unfold rg; omega) (fun c1 => ?_) (fun c1 => ?_)
    · exact T.vret dJ7_fill_53178_20 ⟨rfl, by rw [show x = n from by omega]⟩
    · refine T.aload_n dJ7_fill_53178_10 rfl ?_
      refine T.iload_n dJ7_fill_53178_11 rfl ?_
      refine T.iload_n dJ7_fill_53178_12 rfl ?_
      refine T.mist (x := x) dJ7_fill_53178_13 ho hs rfl (by omega) ?_ (by omega)
      rw [updS_up, fil0_s]
      refine T.iinc (ls' := [some (rf E k j i), some (.int (iI v)), some (.int (iI ((x : Int) + 1))), some (.int (iI (n : Int)))]) dJ7_fill_53178_14 rfl rfl ?_
      refine T.goto 5 dJ7_fill_53178_17 ?_
      exact ih (n - (x + 1)) (by omega) (x + 1) rfl (by omega)
set_option maxHeartbeats 4000000 in
set_option maxRecDepth 100000 in
theorem c_fillI (E : Ev) (m : Mem) (k j i n : Nat) (v : Int) (ho : okC k j i) (hs : ∀ g, shape E k j i g = ints E n g) (hn : n ≤ 1000) : CT E 1 mJ7_fill_53178 [rf E k j i, .int (iI v)] (hp E m) none (hp E (updS m k j i (fil0 (m k j i) n v))) := by
  refine CT.go okJ7_fill_53178 (Nat.le_of_ble_eq_true rfl) ?_
  show T E 1 mJ7_fill_53178 0 [some (rf E k j i), some (.int (iI v)), none, none] [] (hp E m) _
  refine T.iconst dJ7_fill_53178_0 ?_
  refine T.istore_n (ls' := [some (rf E k j i), some (.int (iI v)), some (.int (iI 0)), none]) dJ7_fill_53178_1 rfl ?_
  refine T.aload_n dJ7_fill_53178_2 rfl ?_
  refine T.mlenI (n := n) dJ7_fill_53178_3 ho hs ?_
  refine T.istore_n (ls' := [some (rf E k j i), some (.int (iI v)), some (.int (iI 0)), some (.int (iI (n : Int)))]) dJ7_fill_53178_4 rfl ?_
  have h0 := c_fillI_loop E m k j i n v ho hs hn n 0 rfl (Nat.zero_le _)
  rw [fil0_0, updS_self] at h0
  exact h0
set_option maxHeartbeats 4000000 in
set_option maxRecDepth 100000 in
theorem c_share_c (E : Ev) (m : Mem) (j : Nat) (S : PS) (hj : j < 6) (hI : Inv m) (hS : InvS kC S) (fr c : Nat) (a : Int) (hfc : fr + c ≤ 8) (ha : -1000000000000 ≤ a ∧ a ≤ 1000000000000) : ∀ (kk : Nat) (k : Nat) (D : PS) (ov : Int), c - k = kk → k ≤ c → sh2 (lw m (16 + j)) S fr a k = (D, ov) → InvS kC D → D 17 = S 17 → (a - 4099990000 * k ≤ ov ∧ ov ≤ a) → T E 3 mX1_share 129 [some (rf E 10 j 0), some (.int (iI (fr : Int))), some (.int (iI ((fr + c : Nat) : Int))), none, none, none, none, some (.long (lI ov)), none, some (.int (iI ((fr + k : Nat) : Int)))] [] (hp E (wrC m j D)) (fun r' h' => r' = some (.long (lI (sh2 (lw m (16 + j)) S fr a c).2)) ∧ h' = hp E (wrC m j (sh2 (lw m (16 + j)) S fr a c).1)) := by
  intro kk
  induction kk using Nat.strongRecOn with
  | ind kk ih =>
    intro k D ov hk hkc hq hD e17 hov
    refine T.iload dX1_share_129 rfl ?_
    refine T.iload_n dX1_share_131 rfl ?_
    refine T.icmp_ge 159 dX1_share_132 (by unfold rg; omega) (by unfold rg; omega) (fun c1 => ?_) (fun c1 => ?_)
    · refine T.lload dX1_share_159 rfl ?_
      exact T.lret dX1_share_161 ⟨by rw [show c = k from by omega, hq], by rw [show c = k from by omega, hq]⟩
    · refine T.lload dX1_share_135 rfl ?_
      refine T.aload_n dX1_share_137 rfl ?_
      refine T.aload_n dX1_share_138 rfl ?_
      refine T.mget (v := rf E 17 j 0) dX1_share_139 fo_X1_53 (ok10 (by omega)) rfl rfl ?_
      refine T.iload dX1_share_142 rfl ?_
      refine T.aI (z := D 17 (fr + k)) (x := fr + k) dX1_share_144 (ok17 (by omega)) (fun _ => rfl) (by omega) (by omega) (wrC_c rfl) ?_
      have q2 : 0 ≤ D 17 (fr + k) ∧ D 17 (fr + k) ≤ 7 := hD 17 (fr + k) rfl
      refine T.lload dX1_share_145 rfl ?_
      refine T.cV1 (As := [.int (iI (D 17 (fr + k))), .long (lI ov)]) (st := [.long (lI ov)]) dX1_share_147 lk_X1_205 (by have h0 := c_give E m j D (D 17 (fr + k)).toNat ov hj hI hD (by omega) (by omega); rw [show (((D 17 (fr + k)).toNat : Nat) : Int) = D 17 (fr + k) from by omega] at h0; exact h0) (ok10 (by omega)) rfl rfl (by decide) rfl rfl (Nat.le_of_ble_eq_true rfl) ?_
      have hg := giveR_bd (D 17 (fr + k)).toNat ov hD
      have hD1 := giveS_inv (L := (lw m (16 + j))) (D 17 (fr + k)).toNat ov hD
      refine T.lsub dX1_share_150 ?_
      refine T.lstore (ls' := [some (rf E 10 j 0), some (.int (iI (fr : Int))), some (.int (iI ((fr + c : Nat) : Int))), none, none, none, none, some (.long (lI (ov - (giveR D (D 17 (fr + k)).toNat ov)))), none, some (.int (iI ((fr + k : Nat) : Int)))]) dX1_share_151 rfl ?_
      refine T.iinc (ls' := [some (rf E 10 j 0), some (.int (iI (fr : Int))), some (.int (iI ((fr + c : Nat) : Int))), none, none, none, none, some (.long (lI (ov - (giveR D (D 17 (fr + k)).toNat ov)))), none, some (.int (iI (((fr + k : Nat) : Int) + 1)))]) dX1_share_153 rfl rfl ?_
      refine T.goto 129 dX1_share_156 ?_
      exact ih (c - (k + 1)) (by omega) (k + 1) (giveS (lw m (16 + j)) D (D 17 (fr + k)).toNat ov) (ov - giveR D (D 17 (fr + k)).toNat ov) rfl (by omega) (by show ((giveS (lw m (16 + j)) (sh2 (lw m (16 + j)) S fr a k).1 (S 17 (fr + k)).toNat (sh2 (lw m (16 + j)) S fr a k).2, (sh2 (lw m (16 + j)) S fr a k).2 - giveR (sh2 (lw m (16 + j)) S fr a k).1 (S 17 (fr + k)).toNat (sh2 (lw m (16 + j)) S fr a k).2) : PS × Int) = _; rw [hq, ← e17]) hD1 (by rw [giveS_k (by decide), e17]) (by omega)
set_option maxHeartbeats 4000000 in
set_option maxRecDepth 100000 in
theorem c_share_b (E : Ev) (m : Mem) (j : Nat) (S : PS) (hj : j < 6) (hI : Inv m) (hS : InvS kC S) (fr c : Nat) (a al : Int) (hfc : fr + c ≤ 8) (ha : 0 ≤ a ∧ a ≤ 1000000000) (hal : 0 < al ∧ al ≤ 100000000000) (Q : Option Value → Hp → Prop) (hK : ∀ (k : Nat) (D : PS) (ov : Int), c = k → sh1 (lw m (16 + j)) S fr a al k = (D, ov) → InvS kC D → D 17 = S 17 → (a - 4099990000 * k ≤ ov ∧ ov ≤ a) → T E 3 mX1_share 126 [some (rf E 10 j 0), some (.int (iI (fr : Int))), some (.int (iI ((fr + c : Nat) : Int))), some (.long (lI a)), none, some (.long (lI al)), none, some (.long (lI ov)), none, some (.int (iI ((fr + k : Nat) : Int)))] [] (hp E (wrC m j D)) Q) : ∀ (kk : Nat) (k : Nat) (D : PS) (ov : Int), c - k = kk → k ≤ c → sh1 (lw m (16 + j)) S fr a al k = (D, ov) → InvS kC D → D 17 = S 17 → (a - 4099990000 * k ≤ ov ∧ ov ≤ a) → T E 3 mX1_share 68 [some (rf E 10 j 0), some (.int (iI (fr : Int))), some (.int (iI ((fr + c : Nat) : Int))), some (.long (lI a)), none, some (.long (lI al)), none, some (.long (lI ov)), none, some (.int (iI ((fr + k : Nat) : Int)))] [] (hp E (wrC m j D)) Q := by
  intro kk
  induction kk using Nat.strongRecOn with
  | ind kk ih =>
    intro k D ov hk hkc hq hD e17 hov
    have y1 : 0 ≤ D 11 (D 17 (fr + k)).toNat ∧ D 11 (D 17 (fr + k)).toNat ≤ 99990000 := hD 11 _ rfl
    have y2 : 0 ≤ D 12 (D 17 (fr + k)).toNat ∧ D 12 (D 17 (fr + k)).toNat ≤ 4000000000 := hD 12 _ rfl
    have y3 := mul_bd ha.1 ha.2 (by omega : 0 ≤ D 11 (D 17 (fr + k)).toNat + D 12 (D 17 (fr + k)).toNat) (by omega : D 11 (D 17 (fr + k)).toNat + D 12 (D 17 (fr + k)).toNat ≤ 4099990000)
    have y4 := div_bd y3.1 hal.1
    refine T.iload dX1_share_68 rfl ?_
    refine T.iload_n dX1_share_70 rfl ?_
    refine T.icmp_ge 126 dX1_share_71 (by unfold rg; omega) (by unfold rg; omega) (fun c1 => ?_) (fun c1 => ?_)
    · exact hK k D ov (by omega) hq hD e17 hov
    · refine T.lload dX1_share_74 rfl ?_
      refine T.aload_n dX1_share_76 rfl ?_
      refine T.aload_n dX1_share_77 rfl ?_
      refine T.mget (v := rf E 17 j 0) dX1_share_78 fo_X1_53 (ok10 (by omega)) rfl rfl ?_
      refine T.iload dX1_share_81 rfl ?_
      refine T.aI (z := D 17 (fr + k)) (x := fr + k) dX1_share_83 (ok17 (by omega)) (fun _ => rfl) (by omega) (by omega) (wrC_c rfl) ?_
      have q2 : 0 ≤ D 17 (fr + k) ∧ D 17 (fr + k) ≤ 7 := hD 17 (fr + k) rfl
      refine T.lload_n dX1_share_84 rfl ?_
      refine T.aload_n dX1_share_85 rfl ?_
      refine T.mget (v := rf E 11 j 0) dX1_share_86 fo_X1_32 (ok10 (by omega)) rfl rfl ?_
      refine T.aload_n dX1_share_89 rfl ?_
      refine T.mget (v := rf E 17 j 0) dX1_share_90 fo_X1_53 (ok10 (by omega)) rfl rfl ?_
      refine T.iload dX1_share_93 rfl ?_
      refine T.aI (z := D 17 (fr + k)) (x := fr + k) dX1_share_95 (ok17 (by omega)) (fun _ => rfl) (by omega) (by omega) (wrC_c rfl) ?_
      refine T.aL (z := D 11 ((D 17 (fr + k)).toNat)) (x := (D 17 (fr + k)).toNat) dX1_share_96 (ok11 (by omega)) (fun _ => rfl) (by omega) (by omega) (wrC_c rfl) ?_
      have q3 : 0 ≤ D 11 ((D 17 (fr + k)).toNat) ∧ D 11 ((D 17 (fr + k)).toNat) ≤ 99990000 := hD 11 ((D 17 (fr + k)).toNat) rfl
      refine T.aload_n dX1_share_97 rfl ?_
      refine T.mget (v := rf E 12 j 0) dX1_share_98 fo_X1_36 (ok10 (by omega)) rfl rfl ?_
      refine T.aload_n dX1_share_101 rfl ?_
      refine T.mget (v := rf E 17 j 0) dX1_share_102 fo_X1_53 (ok10 (by omega)) rfl rfl ?_
      refine T.iload dX1_share_105 rfl ?_
      refine T.aI (z := D 17 (fr + k)) (x := fr + k) dX1_share_107 (ok17 (by omega)) (fun _ => rfl) (by omega) (by omega) (wrC_c rfl) ?_
      refine T.aL (z := D 12 ((D 17 (fr + k)).toNat)) (x := (D 17 (fr + k)).toNat) dX1_share_108 (ok12 (by omega)) (fun _ => rfl) (by omega) (by omega) (wrC_c rfl) ?_
      have q4 : 0 ≤ D 12 ((D 17 (fr + k)).toNat) ∧ D 12 ((D 17 (fr + k)).toNat) ≤ 4000000000 := hD 12 ((D 17 (fr + k)).toNat) rfl
      refine T.ladd dX1_share_109 ?_
      refine T.lmul dX1_share_110 ?_
      refine T.lload dX1_share_111 rfl ?_
      refine T.ldiv dX1_share_113 (by unfold rl; omega) (by unfold rl; omega) (by omega) (by omega) ?_
      refine T.cV1 (As := [.int (iI (D 17 (fr + k))), .long (lI ((a * ((D 11 ((D 17 (fr + k)).toNat)) + (D 12 ((D 17 (fr + k)).toNat)))) / al))]) (st := [.long (lI ov)]) dX1_share_114 lk_X1_205 (by have h0 := c_give E m j D (D 17 (fr + k)).toNat ((a * ((D 11 ((D 17 (fr + k)).toNat)) + (D 12 ((D 17 (fr + k)).toNat)))) / al) hj hI hD (by omega) (by omega); rw [show (((D 17 (fr + k)).toNat : Nat) : Int) = D 17 (fr + k) from by omega] at h0; exact h0) (ok10 (by omega)) rfl rfl (by decide) rfl rfl (Nat.le_of_ble_eq_true rfl) ?_
      have hg := giveR_bd (D 17 (fr + k)).toNat ((a * ((D 11 ((D 17 (fr + k)).toNat)) + (D 12 ((D 17 (fr + k)).toNat)))) / al) hD
      have hD1 := giveS_inv (L := (lw m (16 + j))) (D 17 (fr + k)).toNat ((a * ((D 11 ((D 17 (fr + k)).toNat)) + (D 12 ((D 17 (fr + k)).toNat)))) / al) hD
      refine T.lsub dX1_share_117 ?_
      refine T.lstore (ls' := [some (rf E 10 j 0), some (.int (iI (fr : Int))), some (.int (iI ((fr + c : Nat) : Int))), some (.long (lI a)), none, some (.long (lI al)), none, some (.long (lI (ov - (giveR D (D 17 (fr + k)).toNat ((a * ((D 11 ((D 17 (fr + k)).toNat)) + (D 12 ((D 17 (fr + k)).toNat)))) / al))))), none, some (.int (iI ((fr + k : Nat) : Int)))]) dX1_share_118 rfl ?_
      refine T.iinc (ls' := [some (rf E 10 j 0), some (.int (iI (fr : Int))), some (.int (iI ((fr + c : Nat) : Int))), some (.long (lI a)), none, some (.long (lI al)), none, some (.long (lI (ov - (giveR D (D 17 (fr + k)).toNat ((a * ((D 11 ((D 17 (fr + k)).toNat)) + (D 12 ((D 17 (fr + k)).toNat)))) / al))))), none, some (.int (iI (((fr + k : Nat) : Int) + 1)))]) dX1_share_120 rfl rfl ?_
      refine T.goto 68 dX1_share_123 ?_
      exact ih (c - (k + 1)) (by omega) (k + 1) (giveS (lw m (16 + j)) D (D 17 (fr + k)).toNat (a * (D 11 (D 17 (fr + k)).toNat + D 12 (D 17 (fr + k)).toNat) / al)) (ov - giveR D (D 17 (fr + k)).toNat (a * (D 11 (D 17 (fr + k)).toNat + D 12 (D 17 (fr + k)).toNat) / al)) rfl (by omega) (by show ((giveS (lw m (16 + j)) (sh1 (lw m (16 + j)) S fr a al k).1 (S 17 (fr + k)).toNat (a * ((sh1 (lw m (16 + j)) S fr a al k).1 11 (S 17 (fr + k)).toNat + (sh1 (lw m (16 + j)) S fr a al k).1 12 (S 17 (fr + k)).toNat) / al), (sh1 (lw m (16 + j)) S fr a al k).2 - giveR (sh1 (lw m (16 + j)) S fr a al k).1 (S 17 (fr + k)).toNat (a * ((sh1 (lw m (16 + j)) S fr a al k).1 11 (S 17 (fr + k)).toNat + (sh1 (lw m (16 + j)) S fr a al k).1 12 (S 17 (fr + k)).toNat) / al)) : PS × Int) = _; rw [hq, ← e17]) hD1 (by rw [giveS_k (by decide), e17]) (by omega)
set_option maxHeartbeats 4000000 in
set_option maxRecDepth 100000 in
theorem c_share_a (E : Ev) (m : Mem) (j : Nat) (S : PS) (hj : j < 6) (hI : Inv m) (hS : InvS kC S) (fr c : Nat) (a : Int) (hfc : fr + c ≤ 8) (Q : Option Value → Hp → Prop) (hK : T E 3 mX1_share 48 [some (rf E 10 j 0), some (.int (iI (fr : Int))), some (.int (iI ((fr + c : Nat) : Int))), some (.long (lI a)), none, some (.long (lI (allL S fr c))), none, none, none, none] [] (hp E (wrC m j S)) Q) : ∀ (kk : Nat) (k : Nat), c - k = kk → k ≤ c → T E 3 mX1_share 6 [some (rf E 10 j 0), some (.int (iI (fr : Int))), some (.int (iI ((fr + c : Nat) : Int))), some (.long (lI a)), none, some (.long (lI (allL S fr k))), none, some (.int (iI ((fr + k : Nat) : Int))), none, none] [] (hp E (wrC m j S)) Q := by
  intro kk
  induction kk using Nat.strongRecOn with
  | ind kk ih =>
    intro k hk hkc
    refine T.iload dX1_share_6 rfl ?_
    refine T.iload_n dX1_share_8 rfl ?_
    refine T.icmp_ge 48 dX1_share_9 (by unfold rg; omega) (by unfold rg; omega) (fun c1 => ?_) (fun c1 => ?_)
    · refine T.fgt (ls' := [some (rf E 10 j 0), some (.int (iI (fr : Int))), some (.int (iI ((fr + c : Nat) : Int))), some (.long (lI a)), none, some (.long (lI (allL S fr k))), none, none, none, none]) (by simp [lsw]) ?_
      obtain rfl : k = c := by omega
      exact hK
    · refine T.lload dX1_share_12 rfl ?_
      refine T.aload_n dX1_share_14 rfl ?_
      refine T.mget (v := rf E 11 j 0) dX1_share_15 fo_X1_32 (ok10 (by omega)) rfl rfl ?_
      refine T.aload_n dX1_share_18 rfl ?_
      refine T.mget (v := rf E 17 j 0) dX1_share_19 fo_X1_53 (ok10 (by omega)) rfl rfl ?_
      refine T.iload dX1_share_22 rfl ?_
      refine T.aI (z := S 17 (fr + k)) (x := fr + k) dX1_share_24 (ok17 (by omega)) (fun _ => rfl) (by omega) (by omega) (wrC_c rfl) ?_
      have q2 : 0 ≤ S 17 (fr + k) ∧ S 17 (fr + k) ≤ 7 := hS 17 (fr + k) rfl
      refine T.aL (z := S 11 ((S 17 (fr + k)).toNat)) (x := (S 17 (fr + k)).toNat) dX1_share_25 (ok11 (by omega)) (fun _ => rfl) (by omega) (by omega) (wrC_c rfl) ?_
      have q3 : 0 ≤ S 11 ((S 17 (fr + k)).toNat) ∧ S 11 ((S 17 (fr + k)).toNat) ≤ 99990000 := hS 11 ((S 17 (fr + k)).toNat) rfl
      refine T.aload_n dX1_share_26 rfl ?_
      refine T.mget (v := rf E 12 j 0) dX1_share_27 fo_X1_36 (ok10 (by omega)) rfl rfl ?_
      refine T.aload_n dX1_share_30 rfl ?_
      refine T.mget (v := rf E 17 j 0) dX1_share_31 fo_X1_53 (ok10 (by omega)) rfl rfl ?_
      refine T.iload dX1_share_34 rfl ?_
      refine T.aI (z := S 17 (fr + k)) (x := fr + k) dX1_share_36 (ok17 (by omega)) (fun _ => rfl) (by omega) (by omega) (wrC_c rfl) ?_
      refine T.aL (z := S 12 ((S 17 (fr + k)).toNat)) (x := (S 17 (fr + k)).toNat) dX1_share_37 (ok12 (by omega)) (fun _ => rfl) (by omega) (by omega) (wrC_c rfl) ?_
      have q4 : 0 ≤ S 12 ((S 17 (fr + k)).toNat) ∧ S 12 ((S 17 (fr + k)).toNat) ≤ 4000000000 := hS 12 ((S 17 (fr + k)).toNat) rfl
      refine T.ladd dX1_share_38 ?_
      refine T.ladd dX1_share_39 ?_
      refine T.lstore (ls' := [some (rf E 10 j 0), some (.int (iI (fr : Int))), some (.int (iI ((fr + c : Nat) : Int))), some (.long (lI a)), none, some (.long (lI ((allL S fr k) + ((S 11 ((S 17 (fr + k)).toNat)) + (S 12 ((S 17 (fr + k)).toNat)))))), none, some (.int (iI ((fr + k : Nat) : Int))), none, none]) dX1_share_40 rfl ?_
      refine T.iinc (ls' := [some (rf E 10 j 0), some (.int (iI (fr : Int))), some (.int (iI ((fr + c : Nat) : Int))), some (.long (lI a)), none, some (.long (lI ((allL S fr k) + ((S 11 ((S 17 (fr + k)).toNat)) + (S 12 ((S 17 (fr + k)).toNat)))))), none, some (.int (iI (((fr + k : Nat) : Int) + 1))), none, none]) dX1_share_42 rfl rfl ?_
      refine T.goto 6 dX1_share_45 ?_
      exact ih (c - (k + 1)) (by omega) (k + 1) rfl (by omega)
set_option maxHeartbeats 4000000 in
set_option maxRecDepth 100000 in
theorem c_share_d (E : Ev) (m : Mem) (j : Nat) (S : PS) (hj : j < 6) (hI : Inv m) (hS : InvS kC S) (fr c : Nat) (ov : Int) (hfc : fr + c ≤ 8) (ho : -1000000000000 ≤ ov ∧ ov ≤ 1000000000000) : T E 3 mX1_share 126 [some (rf E 10 j 0), some (.int (iI (fr : Int))), some (.int (iI ((fr + c : Nat) : Int))), none, none, none, none, some (.long (lI ov)), none, none] [] (hp E (wrC m j S)) (fun r' h' => r' = some (.long (lI (sh2 (lw m (16 + j)) S fr ov c).2)) ∧ h' = hp E (wrC m j (sh2 (lw m (16 + j)) S fr ov c).1)) := by
  refine T.iload_n dX1_share_126 rfl ?_
  refine T.istore (ls' := [some (rf E 10 j 0), some (.int (iI (fr : Int))), some (.int (iI ((fr + c : Nat) : Int))), none, none, none, none, some (.long (lI ov)), none, some (.int (iI (fr : Int)))]) dX1_share_127 rfl ?_
  exact c_share_c E m j S hj hI hS fr c ov hfc ho _ 0 S ov rfl (Nat.zero_le _) rfl hS rfl (by omega)
set_option maxHeartbeats 4000000 in
set_option maxRecDepth 100000 in
theorem c_share_e (E : Ev) (m : Mem) (j : Nat) (S : PS) (hj : j < 6) (hI : Inv m) (hS : InvS kC S) (fr c : Nat) (a : Int) (hfc : fr + c ≤ 8) (ha : 0 ≤ a ∧ a ≤ 1000000000) : T E 3 mX1_share 48 [some (rf E 10 j 0), some (.int (iI (fr : Int))), some (.int (iI ((fr + c : Nat) : Int))), some (.long (lI a)), none, some (.long (lI (allL S fr c))), none, none, none, none] [] (hp E (wrC m j S)) (fun r' h' => r' = some (.long (lI (shareS (lw m (16 + j)) S fr (fr + c) a).2)) ∧ h' = hp E (wrC m j (shareS (lw m (16 + j)) S fr (fr + c) a).1)) := by
  have hb := allL_bd fr hS c
  refine T.lload_n dX1_share_48 rfl ?_
  refine T.lstore (ls' := [some (rf E 10 j 0), some (.int (iI (fr : Int))), some (.int (iI ((fr + c : Nat) : Int))), some (.long (lI a)), none, some (.long (lI (allL S fr c))), none, some (.long (lI a)), none, none]) dX1_share_49 rfl ?_
  refine T.lload dX1_share_51 rfl ?_
  refine T.lconst0 dX1_share_53 ?_
  refine T.lcmp_le 126 dX1_share_54 dX1_share_55 (by unfold rl; omega) (by unfold rl; omega) (fun c1 => ?_) (fun c1 => ?_)
  · refine T.fgt (ls' := [some (rf E 10 j 0), some (.int (iI (fr : Int))), some (.int (iI ((fr + c : Nat) : Int))), none, none, none, none, some (.long (lI a)), none, none]) (by simp [lsw]) ?_
    rw [show shareS (lw m (16 + j)) S fr (fr + c) a = sh2 (lw m (16 + j)) S fr a c from by unfold shareS; rw [show fr + c - fr = c from by omega]; simp only; rw [if_neg (by omega)]]
    exact c_share_d E m j S hj hI hS fr c a hfc (by omega)
  · refine T.lload dX1_share_58 rfl ?_
    refine T.lload_n dX1_share_60 rfl ?_
    refine T.lcmp_le 126 dX1_share_61 dX1_share_62 (by unfold rl; omega) (by unfold rl; omega) (fun c2 => ?_) (fun c2 => ?_)
    · refine T.fgt (ls' := [some (rf E 10 j 0), some (.int (iI (fr : Int))), some (.int (iI ((fr + c : Nat) : Int))), none, none, none, none, some (.long (lI a)), none, none]) (by simp [lsw]) ?_
      rw [show shareS (lw m (16 + j)) S fr (fr + c) a = sh2 (lw m (16 + j)) S fr a c from by unfold shareS; rw [show fr + c - fr = c from by omega]; simp only; rw [if_neg (by omega)]]
      exact c_share_d E m j S hj hI hS fr c a hfc (by omega)
    · refine T.iload_n dX1_share_65 rfl ?_
      refine T.istore (ls' := [some (rf E 10 j 0), some (.int (iI (fr : Int))), some (.int (iI ((fr + c : Nat) : Int))), some (.long (lI a)), none, some (.long (lI (allL S fr c))), none, some (.long (lI a)), none, some (.int (iI (fr : Int)))]) dX1_share_66 rfl ?_
      refine c_share_b E m j S hj hI hS fr c a (allL S fr c) hfc (by omega) (by omega) _ (fun k D ov hk hq hD e17 hov => ?_) _ 0 S a rfl (Nat.zero_le _) rfl hS rfl (by omega)
      subst hk
      refine T.fgt (ls' := [some (rf E 10 j 0), some (.int (iI (fr : Int))), some (.int (iI ((fr + c : Nat) : Int))), none, none, none, none, some (.long (lI ov)), none, none]) (by simp [lsw]) ?_
      rw [show shareS (lw m (16 + j)) S fr (fr + c) a = sh2 (lw m (16 + j)) D fr ov c from by unfold shareS; rw [show fr + c - fr = c from by omega]; simp only; rw [if_pos (by omega), hq]]
      exact c_share_d E m j D hj hI hD fr c ov hfc (by omega)
set_option maxHeartbeats 4000000 in
set_option maxRecDepth 100000 in
theorem c_share (E : Ev) (m : Mem) (j : Nat) (S : PS) (fr c : Nat) (a : Int) (hj : j < 6) (hI : Inv m) (hS : InvS kC S) (hfc : fr + c ≤ 8) (ha : 0 ≤ a ∧ a ≤ 1000000000) : CT E 3 mX1_share [rf E 10 j 0, .int (iI (fr : Int)), .int (iI ((fr + c : Nat) : Int)), .long (lI a)] (hp E (wrC m j S)) (some (.long (lI (shareS (lw m (16 + j)) S fr (fr + c) a).2))) (hp E (wrC m j (shareS (lw m (16 + j)) S fr (fr + c) a).1)) := by
  refine CT.go okX1_share (Nat.le_of_ble_eq_true rfl) ?_
  show T E 3 mX1_share 0 [some (rf E 10 j 0), some (.int (iI (fr : Int))), some (.int (iI ((fr + c : Nat) : Int))), some (.long (lI a)), none, none, none, none, none, none] [] (hp E (wrC m j S)) _
  refine T.lconst0 dX1_share_0 ?_
  refine T.lstore (ls' := [some (rf E 10 j 0), some (.int (iI (fr : Int))), some (.int (iI ((fr + c : Nat) : Int))), some (.long (lI a)), none, some (.long (lI 0)), none, none, none, none]) dX1_share_1 rfl ?_
  refine T.iload_n dX1_share_3 rfl ?_
  refine T.istore (ls' := [some (rf E 10 j 0), some (.int (iI (fr : Int))), some (.int (iI ((fr + c : Nat) : Int))), some (.long (lI a)), none, some (.long (lI 0)), none, some (.int (iI (fr : Int))), none, none]) dX1_share_4 rfl ?_
  exact c_share_a E m j S hj hI hS fr c a hfc _ (c_share_e E m j S hj hI hS fr c a hfc ha) _ 0 rfl (Nat.zero_le _)
