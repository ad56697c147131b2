theorem bv8 (a : BitVec 32) : (a.signExtend 8).signExtend 32 = (a <<< 24).sshiftRight 24 := by
  apply BitVec.eq_of_getLsbD_eq
  intro i hi
  simp only [BitVec.getLsbD_signExtend, BitVec.getLsbD_sshiftRight, BitVec.getLsbD_shiftLeft, BitVec.msb_eq_getLsbD_last, hi, decide_true, Bool.true_and]
  by_cases c : i < 8
  · have e1 : ¬ 32 ≤ i := by omega
    have e2 : 24 + i < 32 := by omega
    have e3 : i < 32 := by omega
    simp [c, e1, e2, e3]
  · have e1 : ¬ 32 ≤ i := by omega
    have e2 : ¬ 24 + i < 32 := by omega
    simp [c, e1, e2]
theorem bv16 (a : BitVec 32) : (a.signExtend 16).signExtend 32 = (a <<< 16).sshiftRight 16 := by
  apply BitVec.eq_of_getLsbD_eq
  intro i hi
  simp only [BitVec.getLsbD_signExtend, BitVec.getLsbD_sshiftRight, BitVec.getLsbD_shiftLeft, BitVec.msb_eq_getLsbD_last, hi, decide_true, Bool.true_and]
  by_cases c : i < 16
  · have e1 : ¬ 32 ≤ i := by omega
    have e2 : 16 + i < 32 := by omega
    have e3 : i < 32 := by omega
    simp [c, e1, e2, e3]
  · have e1 : ¬ 32 ≤ i := by omega
    have e2 : ¬ 16 + i < 32 := by omega
    simp [c, e1, e2]
theorem i8_sh (a : Int32) : a.toInt8.toInt32 = a <<< (24 : Int32) >>> (24 : Int32) := by
  apply Int32.toBitVec_inj.mp
  rw [Int32.toBitVec_shiftRight, Int32.toBitVec_shiftLeft, show (24 : Int32).toBitVec.smod 32 = 24#32 from by decide]
  exact bv8 a.toBitVec
theorem i16_sh (a : Int32) : a.toInt16.toInt32 = a <<< (16 : Int32) >>> (16 : Int32) := by
  apply Int32.toBitVec_inj.mp
  rw [Int32.toBitVec_shiftRight, Int32.toBitVec_shiftLeft, show (16 : Int32).toBitVec.smod 32 = 16#32 from by decide]
  exact bv16 a.toBitVec
theorem b8_s8 (v : Int) : b8 v = s8 v := by
  unfold b8 s8
  rw [i8_sh, show (iI 24 &&& 31 : Int32) = 24 from by decide]
theorem b16_s16 (v : Int) : b16 v = s16 v := by
  unfold b16 s16
  rw [i16_sh, show (iI 16 &&& 31 : Int32) = 16 from by decide]
theorem b8_rg (v : Int) : -2147483648 ≤ b8 v ∧ b8 v ≤ 2147483647 := by
  have := rg_of ((iI v).toInt8.toInt32)
  exact this
theorem b16_rg (v : Int) : -2147483648 ≤ b16 v ∧ b16 v ≤ 2147483647 := by
  have := rg_of ((iI v).toInt16.toInt32)
  exact this
theorem s_item : Sim_item := by
  intro s la i v hs hl hi hv
  refine simC fun m S hI hA hS hO => ?_
  unfold itemR itemM nitemR nitemS
  by_cases c1 : ¬ ((0 ≤ s ∧ s ≤ 3) ∧ (0 ≤ la ∧ la ≤ 2))
  · simp only [if_pos c1]; exact ⟨hI, fun _ _ => trivial, trivial, hS, hA⟩
  obtain ⟨q, rfl⟩ : ∃ q : Nat, s = q := ⟨s.toNat, by omega⟩
  simp only [if_neg c1, Int.toNat_natCast]
  simp only [lack_eq hI hA.2.2.2.1 (show q < 4 by omega) (show 0 ≤ la ∧ la ≤ 2 by omega)]
  have r := refR_rg m q la i 1
  by_cases c2 : refR m q la i 1 = 0
  · obtain ⟨z1, z2, z3, z4⟩ := refR_0 c2
    have b1 : 0 ≤ m 27 q 0 1 ∧ m 27 q 0 1 ≤ 24 := hI 27 q 0 1
    obtain ⟨x, rfl⟩ : ∃ x : Nat, i = x := ⟨i.toNat, by omega⟩
    simp only [if_neg (show ¬ refR m q la x 1 ≠ 0 by omega), if_neg (show ¬ refR m q la x 1 < 0 by omega), ite_self, Int.toNat_natCast]
    rw [show (24 * (q : Int) + (x : Int)).toNat = 24 * q + x by omega, ← z2]
    have e : (if la = 0 then upT S 58 (24 * q + x) (s8 v) else if la = 1 then upT S 58 (24 * q + x) (s16 v) else upT S 58 (24 * q + x) v) = upT S 58 (24 * q + x) (nar la v) := by
      unfold nar
      rw [b8_s8, b16_s16]
      repeat' split
      all_goals rfl
    rw [e]
    have hr : -2147483648 ≤ nar la v ∧ nar la v ≤ 2147483647 := by
      unfold nar
      have := b8_rg v
      have := b16_rg v
      unfold rg at hv
      repeat' split
      all_goals omega
    refine ⟨hI.up hr, fun k hk => upK (by omega), trivial, hS.up hr, hA.sh ?_ (fun k h1 h2 => upK h2) (fun k h1 h2 h3 => upT_kk h3)⟩
    intro s hs
    obtain ⟨d1, d2, d3⟩ := hA.2.2.2.1 s hs
    rw [upK (by omega), upT_k (by omega), upT_k (by omega)]
    refine ⟨d1, d2, fun j hj => ?_⟩
    by_cases e : s = q ∧ j = x
    · obtain ⟨rfl, rfl⟩ := e
      rw [upT_self, up_self]
    · rw [upT_x (by omega)]
      unfold up
      rw [if_neg (by omega)]
      exact d3 j hj
  · simp only [if_pos (show refR m q la i 1 ≠ 0 by omega), if_pos (show refR m q la i 1 < 0 by omega)]; exact ⟨hI, fun _ _ => trivial, trivial, hS, hA⟩
theorem ap_ok {m : Mem} {S : PS} {b : Int} (hI : Inv m) (hA : RlA m S) (hS : InvS kM S) (hb : 0 ≤ b ∧ b ≤ 127) (hl : S 29 5 < 40) : Ok4 m (apM m b) (nap S b) := by
  have e : m 24 0 0 1 = S 29 5 := hA.2.2.1.1
  have q : 0 ≤ m 24 0 0 1 ∧ m 24 0 0 1 ≤ 40 := hI 24 0 0 1
  refine ⟨apM_inv hI hb (by omega), fun k hk => by unfold apM; rw [upK (by omega), upK (by omega)], nap_inv hS hb hl, hA.tp ⟨?_, fun i hi => ?_⟩ (fun k h1 h2 => by unfold apM; rw [upK h1, upK h2]) (fun k h1 h2 h3 => by unfold nap; rw [upT_kk h1, upT_kk h2]) (fun x hx => by unfold nap; rw [upT_x hx, upT_k (by omega)])⟩
  · unfold apM nap
    rw [up_self, upT_self, e]
  · rw [apM_n] at hi
    unfold apM nap
    rw [upK (by omega), upT_k (by omega), e]
    by_cases c : i = (S 29 5).toNat
    · subst c
      rw [up_self, upT_self]
    · rw [upT_x c]
      unfold up
      rw [if_neg (by omega)]
      exact hA.2.2.1.2 i (by omega)
theorem ty_ok {w : Int64} : ∀ (k : Nat) (m : Mem) (S : PS), Inv m → RlA m S → InvS kM S → sgB w k = true → S 29 5 + k ≤ 40 → Ok4 m (typL w k m) (ntyL w k S)
  | 0, m, S, hI, hA, hS, _, _ => ⟨hI, fun _ _ => rfl, hS, hA⟩
  | k + 1, m, S, hI, hA, hS, hB, hl => by
    have h1 := (sgB_iff (k + 1)).mp hB k (by omega)
    obtain ⟨a1, a2, a3, a4⟩ := ap_ok (b := byN w k) hI hA hS (by omega) (by omega)
    obtain ⟨g1, g2, g3, g4⟩ := ty_ok k (apM m (byN w k)) (nap S (byN w k)) a1 a4 a3 ((sgB_iff k).mpr (fun i hi => (sgB_iff (k + 1)).mp hB i (by omega))) (by unfold nap; rw [upT_self]; omega)
    exact ⟨g1, fun k hk => (g2 k hk).trans (a2 k hk), g3, g4⟩
theorem s_type : Sim_type := by
  intro w n hn
  refine simC fun m S hI hA hS hO => ?_
  have e : m 24 0 0 1 = S 29 5 := hA.2.2.1.1
  unfold typeR typeM ntypeR ntypeS
  rw [e]
  by_cases c1 : ¬ ((1 ≤ n ∧ n ≤ 8) ∧ sgB w n.toNat = true)
  · simp only [if_pos c1]; exact ⟨hI, fun _ _ => trivial, trivial, hS, hA⟩
  by_cases c2 : 40 - S 29 5 < n
  · simp only [if_neg c1, if_pos c2, if_pos (show 40 < S 29 5 + n by omega)]; exact ⟨hI, fun _ _ => trivial, trivial, hS, hA⟩
  simp only [if_neg c1, if_neg c2, if_neg (show ¬ 40 < S 29 5 + n by omega)]
  have c3 := Classical.not_not.mp c1
  obtain ⟨g1, g2, g3, g4⟩ := ty_ok (w := w) n.toNat m S hI hA hS c3.2 (by omega)
  exact ⟨g1, g2, trivial, g3, g4⟩
theorem ad_ok {m : Mem} {S : PS} {s : Nat} {fr : Int} (hI : Inv m) (hA : RlA m S) (hS : InvS kM S) (hs : s < 4) (h0 : 0 ≤ fr) : ∀ n : Nat, (fr + 2 * n ≤ 24) → pyOK m s fr n → S 29 2 + n ≤ 12 → Ok4 m (adL m s fr n) (adN S (24 * (s : Int) + fr) n)
  | 0, _, _, _ => ⟨hI, fun _ _ => rfl, hS, hA⟩
  | n + 1, h1, h2, h3 => by
    obtain ⟨a1, a2, a3, a4⟩ := ad_ok hI hA hS hs h0 n (by omega) (fun i hi => h2 i (by omega)) (by omega)
    obtain ⟨-, -, d3⟩ := hA.2.2.2.1 s hs
    have p := h2 n (by omega)
    have x0 : S 58 (24 * (s : Int) + fr + 2 * (n : Int)).toNat = m 28 s 0 (fr + 2 * (n : Int)).toNat := by
      rw [show (24 * (s : Int) + fr + 2 * (n : Int)).toNat = 24 * s + (fr + 2 * (n : Int)).toNat by omega]
      exact d3 _ (by omega)
    have x1 : S 58 (24 * (s : Int) + fr + 2 * (n : Int) + 1).toNat = m 28 s 0 (fr + 2 * (n : Int) + 1).toNat := by
      rw [show (24 * (s : Int) + fr + 2 * (n : Int) + 1).toNat = 24 * s + (fr + 2 * (n : Int) + 1).toNat by omega]
      exact d3 _ (by omega)
    have hc : adN S (24 * (s : Int) + fr) n 29 2 = S 29 2 + n := by
      have e1 : adL m s fr n 1 0 0 3 = _ := a4.1.2.1
      have e2 : m 1 0 0 3 = _ := hA.1.2.1
      rw [adL_n n] at e1
      have e3 : m 1 0 0 3 + n = adN S (24 * (s : Int) + fr) n 29 2 := e1
      have e4 : m 1 0 0 3 = S 29 2 := e2
      omega
    show Ok4 m (addM (adL m s fr n) 0 _ _) (nadd (adN S (24 * (s : Int) + fr) n) _ _)
    rw [x0, x1]
    obtain ⟨g1, g2, g3, g4⟩ := add_ok (y := m 28 s 0 (fr + 2 * (n : Int)).toNat) (w := m 28 s 0 (fr + 2 * (n : Int) + 1).toNat) a1 a4 a3 (by omega) p.1 p.2
    exact ⟨g1, fun k hk => (g2 k hk).trans (a2 k hk), g3, g4⟩
theorem s_pays : Sim_pays := by
  intro s la fr n hs hl hf hn
  refine simC fun m S hI hA hS hO => ?_
  have e2 : m 1 0 0 3 = S 29 2 := hA.1.2.1
  unfold paysR paysM npaysR npaysS
  by_cases c1 : ¬ ((0 ≤ s ∧ s ≤ 3) ∧ (0 ≤ la ∧ la ≤ 2) ∧ (0 ≤ n ∧ n ≤ 12))
  · simp only [if_pos c1, if_pos (show ¬ (((0 ≤ s ∧ s ≤ 3) ∧ 0 ≤ la ∧ la ≤ 2) ∧ (0 ≤ n ∧ n ≤ 12)) by omega)]; exact ⟨hI, fun _ _ => trivial, trivial, hS, hA⟩
  obtain ⟨q, rfl⟩ : ∃ q : Nat, s = q := ⟨s.toNat, by omega⟩
  simp only [if_neg c1, if_neg (show ¬ ¬ (((0 ≤ (q : Int) ∧ (q : Int) ≤ 3) ∧ 0 ≤ la ∧ la ≤ 2) ∧ (0 ≤ n ∧ n ≤ 12)) by omega), Int.toNat_natCast]
  simp only [lack_eq hI hA.2.2.2.1 (show q < 4 by omega) (show 0 ≤ la ∧ la ≤ 2 by omega), e2]
  have r := refR_rg m q la fr (2 * n)
  by_cases c2 : refR m q la fr (2 * n) = 0
  · obtain ⟨z1, z2, z3, z4⟩ := refR_0 c2
    have b1 : 0 ≤ m 27 q 0 1 ∧ m 27 q 0 1 ≤ 24 := hI 27 q 0 1
    simp only [if_neg (show ¬ refR m q la fr (2 * n) ≠ 0 by omega), if_neg (show ¬ refR m q la fr (2 * n) < 0 by omega)]
    obtain ⟨-, -, d3⟩ := hA.2.2.2.1 q (by omega)
    have hp : pyM S (24 * (q : Int) + fr) n.toNat ↔ pyOK m q fr n.toNat := by
      unfold pyM pyOK
      refine forall_congr' fun i => imp_congr_right fun hi => ?_
      unfold pyJ pyI
      rw [show (24 * (q : Int) + fr + 2 * (i : Int)).toNat = 24 * q + (fr + 2 * (i : Int)).toNat by omega, show (24 * (q : Int) + fr + 2 * (i : Int) + 1).toNat = 24 * q + (fr + 2 * (i : Int) + 1).toNat by omega, d3 _ (by omega), d3 _ (by omega)]
    by_cases c3 : pyOK m q fr n.toNat
    · have c4 := hp.mpr c3
      rw [if_pos c3, if_pos c4, if_pos c3, if_pos c4]
      by_cases c5 : 12 - S 29 2 < n
      · simp only [if_pos c5, if_pos (show 12 < S 29 2 + n by omega)]; exact ⟨hI, fun _ _ => trivial, trivial, hS, hA⟩
      · simp only [if_neg c5, if_neg (show ¬ 12 < S 29 2 + n by omega)]
        obtain ⟨g1, g2, g3, g4⟩ := ad_ok (s := q) (fr := fr) hI hA hS (by omega) z3 n.toNat (by omega) c3 (by omega)
        exact ⟨g1, g2, trivial, g3, g4⟩
    · have c4 : ¬ pyM S (24 * (q : Int) + fr) n.toNat := fun h => c3 (hp.mp h)
      rw [if_neg c3, if_neg c4, if_neg c3, if_neg c4]
      exact ⟨hI, fun _ _ => rfl, rfl, hS, hA⟩
  · simp only [if_pos (show refR m q la fr (2 * n) ≠ 0 by omega), if_pos (show refR m q la fr (2 * n) < 0 by omega)]; exact ⟨hI, fun _ _ => trivial, trivial, hS, hA⟩
