theorem pdF_md {S : PS} {l d N : Nat} : ∀ f x, x + f = N → (∃ n, n ≤ N ∧ (pdF l d f x (mdS S l x)).2 = mdS S l n) ∧ (((pdF l d f x (mdS S l x)).1 = -4 ∧ ∀ z, x ≤ z → z < N → ¬ (mdS S l (z + 1) 31 (8 * d + 1) ≤ z ∧ mdS S l (z + 1) 39 d + mdS S l (z + 1) 40 d = 0)) ∨ ∃ z, x ≤ z ∧ z < N ∧ (pdF l d f x (mdS S l x)).1 = (z : Int) ∧ (mdS S l (z + 1) 31 (8 * d + 1) ≤ z ∧ mdS S l (z + 1) 39 d + mdS S l (z + 1) 40 d = 0) ∧ ∀ z', x ≤ z' → z' < z → ¬ (mdS S l (z' + 1) 31 (8 * d + 1) ≤ z' ∧ mdS S l (z' + 1) 39 d + mdS S l (z' + 1) 40 d = 0))
  | 0, x, h => ⟨⟨x, by omega, rfl⟩, Or.inl ⟨rfl, fun z h1 h2 => by omega⟩⟩
  | f + 1, x, h => by
    have e : gdS (mdS S l x) l x = mdS S l (x + 1) := rfl
    obtain ⟨i1, i2⟩ := pdF_md (S := S) (l := l) (d := d) (N := N) f (x + 1) (by omega)
    unfold pdF
    rw [e]
    by_cases c : mdS S l (x + 1) 31 (8 * d + 1) ≤ x ∧ mdS S l (x + 1) 39 d + mdS S l (x + 1) 40 d = 0
    · rw [if_pos c]
      exact ⟨⟨x + 1, by omega, rfl⟩, Or.inr ⟨x, Nat.le_refl _, by omega, rfl, c, fun z h1 h2 => by omega⟩⟩
    · rw [if_neg c]
      refine ⟨i1, ?_⟩
      rcases i2 with ⟨j1, j2⟩ | ⟨z, j1, j2, j3, j4, j5⟩
      · refine Or.inl ⟨j1, fun z h1 h2 => ?_⟩
        by_cases e2 : z = x
        · subst e2; exact c
        · exact j2 z (by omega) h2
      · refine Or.inr ⟨z, by omega, j2, j3, j4, fun z' h1 h2 => ?_⟩
        by_cases e2 : z' = x
        · subst e2; exact c
        · exact j5 z' (by omega) h2
theorem s_paid : Sim_paid := by
  intro N hN l d hl hd
  refine simQ fun m S hI hA hS hO => ?_
  have e0 : m 1 0 0 1 = S 29 0 := hA.1.1
  unfold paidR paidM npaidR npaidS
  rw [e0]
  by_cases c1 : ¬ ((0 ≤ l ∧ l ≤ 1) ∧ (0 ≤ d ∧ d ≤ S 29 0 - 1))
  · simp only [if_pos c1]; exact ⟨hI, Core.rf, trivial, hS, WG.rf⟩
  simp only [if_neg c1]
  have hl2 : l.toNat < 2 := by omega
  have hC := st_CR (j := 0) hI hA hl2
  have hn : bk (stM m 0 0 l.toNat) (2 + 0) 12 0 = S 29 0 := hC.1.1
  have q := q_paid hN hI hA hS hO hl2 d.toNat (by omega)
  have hb1 : qB m l.toNat 1 d.toNat = S 31 (8 * d.toNat + 1) := hC.1.2.2.1 d.toNat (by omega) 1 (by omega)
  have pz : ∀ z, z < N → ((mdS S l.toNat (z + 1) 31 (8 * d.toNat + 1) ≤ z ∧ mdS S l.toNat (z + 1) 39 d.toNat + mdS S l.toNat (z + 1) 40 d.toNat = 0) ↔ Pz (qB m l.toNat) S l.toNat d.toNat z) := fun z hz => by
    have o := md_ok (l := l.toNat) hS hO (z + 1) (by omega)
    unfold Pz
    rw [hb1, o.2.2.2.1 31 (by omega) (by omega)]
  obtain ⟨⟨n, g1, g2⟩, g3⟩ := pdF_md (S := S) (l := l.toNat) (d := d.toNat) (N := N) N 0 (by omega)
  have e00 : mdS S l.toNat 0 = begS S := rfl
  rw [e00] at g2 g3
  have o := md_ok (l := l.toNat) hS hO n (by omega)
  rw [g2]
  refine ⟨qM_inv hI (by omega), qM_core, ?_, o.1, o.2.2.2.wg⟩
  rcases g3 with ⟨j1, j2⟩ | ⟨z, j1, j2, j3, j4, j5⟩
  · rw [j1]
    rcases q with ⟨q1, q2⟩ | ⟨q1, q2, q3⟩
    · rw [if_pos q1]
    · exfalso
      have := (q3 (qS m l.toNat 299 14 d.toNat).toNat (by omega)).mpr (by omega)
      exact j2 _ (Nat.zero_le _) (by omega) ((pz _ (by omega)).mpr this)
  · rw [j3]
    have hz := (pz z j2).mp j4
    rcases q with ⟨q1, q2⟩ | ⟨q1, q2, q3⟩
    · exact absurd hz (q2 z j2)
    · rw [if_neg (by omega)]
      have a1 := (q3 z j2).mp hz
      apply Classical.byContradiction
      intro hne
      have a2 : (qS m l.toNat 299 14 d.toNat).toNat < z := by omega
      exact j5 _ (Nat.zero_le _) a2 ((pz _ (by omega)).mpr ((q3 _ (by omega)).mpr (by omega)))
/-- the last of some days, from the front and from the back -/
def umB (pl : Nat → Int) (u : Nat → Int) (g : Int) : Nat → Int
  | 0 => 0
  | n + 1 => if pl n = g then max (umB pl u g n) (u n) else umB pl u g n
def umF (pl : Nat → Int) (u : Nat → Int) (g : Int) : Nat → Nat → Int
  | 0, _ => 0
  | k + 1, d => if pl d = g then max (u d) (umF pl u g k (d + 1)) else umF pl u g k (d + 1)
def cnF (pl : Nat → Int) (g : Int) : Nat → Nat → Int
  | 0, _ => 0
  | k + 1, d => (if pl d = g then 1 else 0) + cnF pl g k (d + 1)
theorem cnF_0 {pl u : Nat → Int} {g : Int} : ∀ k d, 0 ≤ cnF pl g k d ∧ (cnF pl g k d = 0 → umF pl u g k d = 0)
  | 0, d => ⟨Int.le_refl _, fun _ => rfl⟩
  | k + 1, d => by
    have i := cnF_0 (pl := pl) (u := u) (g := g) k (d + 1)
    unfold cnF umF
    by_cases c : pl d = g
    · rw [if_pos c, if_pos c]
      exact ⟨by omega, fun h => by omega⟩
    · rw [if_neg c, if_neg c]
      exact ⟨by omega, fun h => i.2 (by omega)⟩
theorem umF_0 {pl u : Nat → Int} {g : Int} : ∀ k d, 0 ≤ umF pl u g k d
  | 0, _ => Int.le_refl _
  | k + 1, d => by
    have i := umF_0 (pl := pl) (u := u) (g := g) k (d + 1)
    unfold umF
    split <;> omega
theorem um_fb {pl u : Nat → Int} {g : Int} : ∀ k d, umB pl u g (d + k) = max (umB pl u g d) (umF pl u g k d) ∨ umB pl u g d < 0
  | 0, d => by
    show umB pl u g d = max (umB pl u g d) 0 ∨ _
    omega
  | k + 1, d => by
    have i := um_fb (pl := pl) (u := u) (g := g) k (d + 1)
    rw [show d + (k + 1) = d + 1 + k by omega]
    unfold umF
    by_cases c : pl d = g
    · have e : umB pl u g (d + 1) = max (umB pl u g d) (u d) := by rw [umB, if_pos c]
      rw [if_pos c]
      rw [e] at i
      omega
    · have e : umB pl u g (d + 1) = umB pl u g d := by rw [umB, if_neg c]
      rw [if_neg c]
      rw [e] at i
      exact i
theorem cn_fb {S : PS} {g : Int} : ∀ k d, cnM S g (d + k) = cnM S g d + cnF (fun x => S 31 (8 * x + 5)) g k d
  | 0, d => by
    show cnM S g d = cnM S g d + 0
    omega
  | k + 1, d => by
    have i := cn_fb (S := S) (g := g) k (d + 1)
    rw [show d + (k + 1) = d + 1 + k by omega, i]
    show cnM S g d + (if S 31 (8 * d + 5) = g then 1 else 0) + _ = cnM S g d + ((if S 31 (8 * d + 5) = g then 1 else 0) + _)
    omega
theorem frF_um {M : Mem} {T : PS} {g : Int} {pl u : Nat → Int} {n : Nat} (hpl : ∀ d, d < n → M 6 0 d 1 = pl d) (hu : ∀ d, d < n → (T 14 d = -1 ∧ u d = 300) ∨ (0 ≤ T 14 d ∧ T 14 d ≤ 299 ∧ u d = T 14 d)) : ∀ k d acc, d + k ≤ n → frF M T g k d acc = if 299 < umF pl u g k d then -4 else if cnF pl g k d = 0 then acc else max acc (umF pl u g k d)
  | 0, d, acc, h => by
    unfold frF umF cnF
    rw [if_neg (by omega), if_pos rfl]
  | k + 1, d, acc, h => by
    have i := fun a => frF_um (g := g) (pl := pl) (u := u) hpl hu k (d + 1) a (by omega)
    obtain ⟨z1, z2⟩ := cnF_0 (pl := pl) (u := u) (g := g) k (d + 1)
    unfold frF umF cnF
    rw [hpl d (by omega)]
    by_cases c : pl d = g
    · rw [if_pos c, if_pos c, if_pos c]
      rcases hu d (by omega) with ⟨q1, q2⟩ | ⟨q1, q2, q3⟩
      · rw [if_pos q1, if_pos (show 299 < max (u d) (umF pl u g k (d + 1)) by omega)]
      · rw [if_neg (show ¬ T 14 d = -1 by omega), i, q3]
        rw [if_neg (show ¬ 1 + cnF pl g k (d + 1) = 0 by omega)]
        by_cases c2 : 299 < umF pl u g k (d + 1)
        · rw [if_pos c2, if_pos (by omega)]
        · rw [if_neg c2, if_neg (show ¬ 299 < max (T 14 d) (umF pl u g k (d + 1)) by omega)]
          by_cases c3 : cnF pl g k (d + 1) = 0
          · rw [if_pos c3, z2 c3]; omega
          · rw [if_neg c3]; omega
    · rw [if_neg c, if_neg c, if_neg c, i, Int.zero_add]
theorem frD_um {D : PS} {x t fr : Int} {u : Nat → Int} {n : Nat} (hu : ∀ d, d < n → ((x < D 31 (8 * d + 1) ∨ 0 < D 39 d + D 40 d) ↔ x < u d)) (hx : 0 ≤ x) : ∀ d, d ≤ n → frD D x t fr d = if x < umB (fun d => D 31 (8 * d + 5)) u t d then x + 1 else fr
  | 0, _ => by
    unfold frD umB
    rw [if_neg (by omega)]
  | d + 1, h => by
    have i := frD_um (t := t) (fr := fr) hu hx d (by omega)
    have hd := hu d (by omega)
    unfold frD umB
    rw [i]
    by_cases c : D 31 (8 * d + 5) = t
    · simp only [if_pos c]
      by_cases c2 : x < u d
      · rw [if_pos ⟨c, hd.mpr c2⟩, if_pos (by omega)]
      · rw [if_neg (fun h => c2 (hd.mp h.2))]
        by_cases c3 : x < umB (fun d => D 31 (8 * d + 5)) u t d
        · rw [if_pos c3, if_pos (by omega)]
        · rw [if_neg c3, if_neg (by omega)]
    · simp only [if_neg c]
      rw [if_neg (fun h => c h.1)]
theorem umB_0 {pl u : Nat → Int} {g : Int} {n : Nat} (h : ∀ d, d < n → u d ≤ 300) : ∀ d, d ≤ n → 0 ≤ umB pl u g d ∧ umB pl u g d ≤ 300
  | 0, _ => by unfold umB; omega
  | d + 1, hd => by
    have i := umB_0 (pl := pl) (g := g) h d (by omega)
    have := h d (by omega)
    unfold umB
    split <;> omega
theorem frL_um {S : PS} {l n N : Nat} {t : Int} {u : Nat → Int} (hN : N = 300) (hS : InvS kM S) (hO : mOK S) (hn : S 29 0 = n) (hu3 : ∀ d, d < n → u d ≤ 300) (hu : ∀ d, d < n → ∀ x : Nat, x < N → (((x : Int) < S 31 (8 * d + 1) ∨ 0 < mdS S l (x + 1) 39 d + mdS S l (x + 1) 40 d) ↔ (x : Int) < u d)) : ∀ x : Nat, x ≤ N → frL S l t x = min (x : Int) (umB (fun d => S 31 (8 * d + 5)) u t n)
  | 0, _ => by
    have := umB_0 (pl := fun d => S 31 (8 * d + 5)) (g := t) hu3 n (Nat.le_refl _)
    unfold frL
    omega
  | x + 1, hx => by
    have i := frL_um (t := t) hN hS hO hn hu3 hu x (by omega)
    have o := md_ok (l := l) hS hO (x + 1) (by omega)
    have e31 := o.2.2.2.1 31 (by omega) (by omega)
    unfold frL
    have f := frD_um (D := mdS S l (x + 1)) (x := x) (t := t) (fr := frL S l t x) (u := u) (n := n) (fun d hd => by rw [e31]; exact hu d hd x (by omega)) (by omega) n (Nat.le_refl _)
    rw [show (S 29 0).toNat = n by omega, f, i, e31]
    split <;> omega
theorem s_free : Sim_free := by
  intro N hN l t hl ht
  refine simQ fun m S hI hA hS hO => ?_
  have b0 : 0 ≤ S 29 0 ∧ S 29 0 ≤ 8 := hS 29 0 rfl
  unfold freeR freeM nfreeR nfreeS
  by_cases c1 : ¬ ((0 ≤ l ∧ l ≤ 1) ∧ (0 ≤ t ∧ t ≤ 5))
  · simp only [if_pos c1]; exact ⟨hI, Core.rf, trivial, hS, WG.rf⟩
  simp only [if_neg c1, ite_self]
  have hl2 : l.toNat < 2 := by omega
  have hC := st_CR (j := 0) hI hA hl2
  obtain ⟨n, hn⟩ : ∃ n : Nat, S 29 0 = n := ⟨(S 29 0).toNat, by omega⟩
  have hqn : bk (stM m 0 0 l.toNat) (2 + 0) 12 0 = S 29 0 := hC.1.1
  have e1 : stM m 0 0 l.toNat 1 0 0 1 = S 29 0 := by
    have := stM_core (m := m) (c := 0) (b0 := 0) (ln := l.toNat) (k := 1) (j := 0) (i := 0) rfl
    rw [this]; exact hA.1.1
  have hpl : ∀ d, d < n → stM m 0 0 l.toNat 6 0 d 1 = S 31 (8 * d + 5) := fun d hd => by
    have := stM_core (m := m) (c := 0) (b0 := 0) (ln := l.toNat) (k := 6) (j := 0) (i := d) rfl
    rw [this]
    have h12 : bk m 0 12 0 = S 29 0 := hA.1.1
    exact hA.1.2.2.1 d (by rw [h12]; omega) 5 (by omega)
  obtain ⟨u, hud⟩ : ∃ u : Nat → Int, u = fun d => if qS m l.toNat 299 14 d = -1 then 300 else qS m l.toNat 299 14 d := ⟨_, rfl⟩
  have q := q_paid hN hI hA hS hO hl2
  have hu1 : ∀ d, d < n → (qS m l.toNat 299 14 d = -1 ∧ u d = 300) ∨ (0 ≤ qS m l.toNat 299 14 d ∧ qS m l.toNat 299 14 d ≤ 299 ∧ u d = qS m l.toNat 299 14 d) := fun d hd => by
    rw [hud]
    rcases q d (by omega) with ⟨q1, q2⟩ | ⟨q1, q2, q3⟩
    · exact Or.inl ⟨q1, if_pos q1⟩
    · exact Or.inr ⟨q1, q2, if_neg (by omega)⟩
  have hu3 : ∀ d, d < n → u d ≤ 300 := fun d hd => by
    have := hu1 d hd
    omega
  have hu2 : ∀ d, d < n → ∀ x : Nat, x < N → (((x : Int) < S 31 (8 * d + 1) ∨ 0 < mdS S l.toNat (x + 1) 39 d + mdS S l.toNat (x + 1) 40 d) ↔ (x : Int) < u d) := fun d hd x hx => by
    have hb1 : qB m l.toNat 1 d = S 31 (8 * d + 1) := hC.1.2.2.1 d (by omega) 1 (by omega)
    have o := md_ok (l := l.toNat) hS hO (x + 1) (by omega)
    have b39 : 0 ≤ mdS S l.toNat (x + 1) 39 d ∧ mdS S l.toNat (x + 1) 39 d ≤ 99990000 := o.1 39 d rfl
    have b40 : 0 ≤ mdS S l.toNat (x + 1) 40 d ∧ mdS S l.toNat (x + 1) 40 d ≤ 4000000000 := o.1 40 d rfl
    have k := hu1 d hd
    rcases q d (by omega) with ⟨q1, q2⟩ | ⟨q1, q2, q3⟩
    · have := q2 x hx
      unfold Pz at this
      omega
    · have := q3 x hx
      unfold Pz at this
      omega
  have f1 := frF_um (M := stM m 0 0 l.toNat) (g := t) hpl hu1 n 0 (-2) (by omega)
  have f2 := frL_um (t := t) hN hS hO hn hu3 hu2 N (Nat.le_refl _)
  have f3 := um_fb (pl := fun d => S 31 (8 * d + 5)) (u := u) (g := t) n 0
  have f4 := cn_fb (S := S) (g := t) n 0
  have f5 := umB_0 (pl := fun d => S 31 (8 * d + 5)) (g := t) hu3 n (Nat.le_refl _)
  have f6 := cnF_0 (pl := fun d => S 31 (8 * d + 5)) (u := u) (g := t) n 0
  have f7 := umF_0 (pl := fun d => S 31 (8 * d + 5)) (u := u) (g := t) n 0
  rw [Nat.zero_add] at f3 f4
  have z1 : umB (fun d => S 31 (8 * d + 5)) u t 0 = 0 := rfl
  have z2 : cnM S t 0 = 0 := rfl
  have o := md_ok (l := l.toNat) hS hO N (by omega)
  refine ⟨qM_inv hI (by omega), qM_core, ?_, ?_, ?_⟩
  · rw [e1, hn, Int.toNat_natCast, f1, f2]
    clear f1 f2
    repeat' split
    all_goals omega
  · split
    · exact hS
    · exact o.1
  · split
    · exact WG.rf
    · exact o.2.2.2.wg
