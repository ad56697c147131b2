-- ===== rows for the walker =====
section WALK
variable {E : Ev} {d : Nat} {M N : MI} {pc idx : Nat} {ls : List (Option Value)} {st st0 : List Value} {m : Mem} {Q : Option Value → Hp → Prop} {k j i : Nat} {z : Int}
theorem T.gI {ci x : Nat} {fs : List Value} (hd : decode M.2.1 pc = .ok (.getfield idx, 3)) (hF : FO M.1.cls idx ci x) (ho : okC k j i) (hs : shape E k j i (m k j i) = .inr (ci, fs)) (hv : fs[x]? = some (.int (iI (m k j i x)))) (hz : m k j i x = z) (kt : T E d M (pc + 3) ls (.int (iI z) :: st) (hp E m) Q) : T E d M pc ls (rf E k j i :: st) (hp E m) Q := by
  subst hz; exact T.mget hd hF ho hs hv kt
theorem T.gL {ci x : Nat} {fs : List Value} (hd : decode M.2.1 pc = .ok (.getfield idx, 3)) (hF : FO M.1.cls idx ci x) (ho : okC k j i) (hs : shape E k j i (m k j i) = .inr (ci, fs)) (hv : fs[x]? = some (.long (lI (m k j i x)))) (hz : m k j i x = z) (kt : T E d M (pc + 3) ls (.long (lI z) :: st) (hp E m) Q) : T E d M pc ls (rf E k j i :: st) (hp E m) Q := by
  subst hz; exact T.mget hd hF ho hs hv kt
theorem T.aI {n x : Nat} {y : Int} (hd : decode M.2.1 pc = .ok (.iaload, 1)) (ho : okC k j i) (hs : ∀ g, shape E k j i g = ints E n g) (hi : y = x) (hN : x < n) (hz : m k j i x = z) (kt : T E d M (pc + 1) ls (.int (iI z) :: st) (hp E m) Q) (hn : n < 2147483648 := by decide) : T E d M pc ls (.int (iI y) :: rf E k j i :: st) (hp E m) Q := by
  subst hz; exact T.mild hd ho hs hi hN kt hn
theorem T.aL {n x : Nat} {y : Int} (hd : decode M.2.1 pc = .ok (.laload, 1)) (ho : okC k j i) (hs : ∀ g, shape E k j i g = longs E n g) (hi : y = x) (hN : x < n) (hz : m k j i x = z) (kt : T E d M (pc + 1) ls (.long (lI z) :: st) (hp E m) Q) (hn : n < 2147483648 := by decide) : T E d M pc ls (.int (iI y) :: rf E k j i :: st) (hp E m) Q := by
  subst hz; exact T.mlld hd ho hs hi hN kt hn
theorem T.aZ {n x : Nat} {y : Int} (hd : decode M.2.1 pc = .ok (.baload, 1)) (ho : okC k j i) (hs : ∀ g, shape E k j i g = bools E n g) (hi : y = x) (hN : x < n) (hz : m k j i x = z) (kt : T E d M (pc + 1) ls (.int (iI z) :: st) (hp E m) Q) (hn : n < 2147483648 := by decide) : T E d M pc ls (.int (iI y) :: rf E k j i :: st) (hp E m) Q := by
  subst hz; exact T.mzld hd ho hs hi hN kt hn
theorem T.cV1 {n dc ci k0 : Nat} {T0 : u_T} {fs As : List Value} {v : Value} {h1 : Hp} (hd : decode M.2.1 pc = .ok (.invokevirtual idx, 3)) (hk : LKV M.1.cls idx N n) (hct : CT E dc N (rf E k j i :: As) (hp E m) (some v) h1) (ho : okC k j i) (hs : shape E k j i (m k j i) = .inr (ci, fs)) (hci : vwCl[ci]? = some (N.1.cls, T0, k0)) (hdc : dc + 1 ≤ d) (hn : As.length = n) (hst : st0 = As.reverse ++ rf E k j i :: st) (hrm : (st.map fun v => v.category).sum ≤ 8) (kt : T E d M (pc + 3) ls (v :: st) h1 Q) : T E d M pc ls st0 (hp E m) Q :=
  T.mcallV hd hk hct ho hs hci hdc hn hst hrm kt
theorem T.cV0 {n dc ci k0 : Nat} {T0 : u_T} {fs As : List Value} {h1 : Hp} (hd : decode M.2.1 pc = .ok (.invokevirtual idx, 3)) (hk : LKV M.1.cls idx N n) (hct : CT E dc N (rf E k j i :: As) (hp E m) none h1) (ho : okC k j i) (hs : shape E k j i (m k j i) = .inr (ci, fs)) (hci : vwCl[ci]? = some (N.1.cls, T0, k0)) (hdc : dc + 1 ≤ d) (hn : As.length = n) (hst : st0 = As.reverse ++ rf E k j i :: st) (hrm : (st.map fun v => v.category).sum ≤ 8) (kt : T E d M (pc + 3) ls st h1 Q) : T E d M pc ls st0 (hp E m) Q :=
  T.mcallV hd hk hct ho hs hci hdc hn hst hrm kt
theorem T.cS1 {n dc : Nat} {As : List Value} {h h1 : Hp} {v : Value} (hd : decode M.2.1 pc = .ok (.invokestatic idx, 3)) (hk : LKS M.1.cls idx N n) (hct : CT E dc N As h (some v) h1) (hdc : dc + 1 ≤ d) (hn : As.length = n) (hst : st0 = As.reverse ++ st) (hrm : (st.map fun v => v.category).sum ≤ 8) (kt : T E d M (pc + 3) ls (v :: st) h1 Q) : T E d M pc ls st0 h Q :=
  T.callS hd hk hct hdc hn hst hrm kt
theorem T.cS0 {n dc : Nat} {As : List Value} {h h1 : Hp} (hd : decode M.2.1 pc = .ok (.invokestatic idx, 3)) (hk : LKS M.1.cls idx N n) (hct : CT E dc N As h none h1) (hdc : dc + 1 ≤ d) (hn : As.length = n) (hst : st0 = As.reverse ++ st) (hrm : (st.map fun v => v.category).sum ≤ 8) (kt : T E d M (pc + 3) ls st h1 Q) : T E d M pc ls st0 h Q :=
  T.callS hd hk hct hdc hn hst hrm kt
theorem CT.go {n : Nat} {as : List Value} {h h1 : Hp} {r : Option Value} (hM : MOK M n) (hn : (lg_sl as).length ≤ M.2.2.1) (j : T E d M 0 (en M.2.2.1 as) [] h (fun r' h' => r' = r ∧ h' = h1)) : CT E d M as h r h1 := TC.ct (TC.of hM hn j)
theorem CT.deep {d' : Nat} {as : List Value} {h h1 : Hp} {r : Option Value} (hd : d = d') (j : CT E d M as h r h1) : CT E d' M as h r h1 := hd ▸ j
def lsw : List (Option Value) → List (Option Value) → Prop
  | [], [] => True
  | _ :: s, none :: t => lsw s t
  | a :: s, some v :: t => a = some v ∧ lsw s t
  | _, _ => False
theorem lsw_at : ∀ {ls ls' : List (Option Value)}, lsw ls ls' → ∀ {i : Nat} {v : Value}, ls'[i]? = some (some v) → ls[i]? = some (some v)
  | [], [], _, i, v, h => by simp at h
  | a :: s, none :: t, hs, 0, v, h => by simp at h
  | a :: s, none :: t, hs, i + 1, v, h => by
    rw [List.getElem?_cons_succ] at h ⊢
    exact lsw_at (ls := s) (ls' := t) hs h
  | a :: s, some w :: t, hs, 0, v, h => by
    have h1 : a = some w := hs.1
    simp at h
    rw [h1, ← h]; rfl
  | a :: s, some w :: t, hs, i + 1, v, h => by
    rw [List.getElem?_cons_succ] at h ⊢
    exact lsw_at (ls := s) (ls' := t) hs.2 h
theorem T.fgt {h : Hp} {ls' : List (Option Value)} (hs : lsw ls ls') (kt : T E d M pc ls' st h Q) : T E d M pc ls st h Q := by
  refine T.pl ?_ kt
  intro p e R s m args below meth c hC hf hl H lsA locs cells slots Q hP hS hL hcl hsl hz kk
  refine kk lsA ⟨hL.1, hL.2.1, fun q hq => ?_⟩
  have := (mem_lvL.mp hq).2
  exact hL.at (lsw_at hs this)
theorem up_self (m : Mem) (k j i x : Nat) (v : Int) : up m k j i x v k j i x = v := by simp [up]
end WALK
theorem ok1 {j : Nat} (h : j < 8) : okC 1 j 0 := ⟨h, rfl⟩
theorem ok2 {j : Nat} (h : j < 8) : okC 2 j 0 := ⟨h, rfl⟩
theorem ok3 {j : Nat} (h : j < 8) : okC 3 j 0 := ⟨h, rfl⟩
theorem ok4 {j : Nat} (h : j < 8) : okC 4 j 0 := ⟨h, rfl⟩
theorem ok5 {j : Nat} {i : Nat} (h : j < 8) (h2 : i < 8) : okC 5 j i := ⟨h, h2⟩
theorem ok6 {j : Nat} {i : Nat} (h : j < 8) (h2 : i < 8) : okC 6 j i := ⟨h, h2⟩
theorem ok7 {j : Nat} {i : Nat} (h : j < 8) (h2 : i < 12) : okC 7 j i := ⟨h, h2⟩
theorem ok8 {j : Nat} (h : j < 22) : okC 8 j 0 := ⟨h, rfl⟩
theorem ok9 {j : Nat} (h : j < 22) : okC 9 j 0 := ⟨h, rfl⟩
theorem ok10 {j : Nat} (h : j < 6) : okC 10 j 0 := ⟨h, rfl⟩
theorem ok11 {j : Nat} (h : j < 6) : okC 11 j 0 := ⟨h, rfl⟩
theorem ok12 {j : Nat} (h : j < 6) : okC 12 j 0 := ⟨h, rfl⟩
theorem ok13 {j : Nat} (h : j < 6) : okC 13 j 0 := ⟨h, rfl⟩
theorem ok14 {j : Nat} (h : j < 6) : okC 14 j 0 := ⟨h, rfl⟩
theorem ok15 {j : Nat} (h : j < 6) : okC 15 j 0 := ⟨h, rfl⟩
theorem ok16 {j : Nat} (h : j < 6) : okC 16 j 0 := ⟨h, rfl⟩
theorem ok17 {j : Nat} (h : j < 6) : okC 17 j 0 := ⟨h, rfl⟩
theorem ok18 {j : Nat} (h : j < 6) : okC 18 j 0 := ⟨h, rfl⟩
theorem ok19 {j : Nat} (h : j < 6) : okC 19 j 0 := ⟨h, rfl⟩
theorem ok27 {j : Nat} (h : j < 4) : okC 27 j 0 := ⟨h, rfl⟩
theorem ok28 {j : Nat} (h : j < 4) : okC 28 j 0 := ⟨h, rfl⟩
theorem ok0 : okC 0 0 0 := ⟨rfl, rfl⟩
theorem ok20 : okC 20 0 0 := ⟨rfl, rfl⟩
theorem ok21 : okC 21 0 0 := ⟨rfl, rfl⟩
theorem ok22 : okC 22 0 0 := ⟨rfl, rfl⟩
theorem ok23 : okC 23 0 0 := ⟨rfl, rfl⟩
theorem ok24 : okC 24 0 0 := ⟨rfl, rfl⟩
theorem ok25 : okC 25 0 0 := ⟨rfl, rfl⟩
theorem ok26 : okC 26 0 0 := ⟨rfl, rfl⟩
theorem ok29 : okC 29 0 0 := ⟨rfl, rfl⟩
theorem ok31 : okC 31 0 0 := ⟨rfl, rfl⟩
theorem ok33 : okC 33 0 0 := ⟨rfl, rfl⟩
theorem ok34 : okC 34 0 0 := ⟨rfl, rfl⟩
theorem ok36 : okC 36 0 0 := ⟨rfl, rfl⟩
theorem ok37 : okC 37 0 0 := ⟨rfl, rfl⟩
theorem ok38 : okC 38 0 0 := ⟨rfl, rfl⟩
theorem ok39 : okC 39 0 0 := ⟨rfl, rfl⟩
theorem ok40 : okC 40 0 0 := ⟨rfl, rfl⟩
theorem ok41 : okC 41 0 0 := ⟨rfl, rfl⟩
theorem ok42 : okC 42 0 0 := ⟨rfl, rfl⟩
theorem ok43 : okC 43 0 0 := ⟨rfl, rfl⟩
theorem ok44 : okC 44 0 0 := ⟨rfl, rfl⟩
theorem ok46 : okC 46 0 0 := ⟨rfl, rfl⟩
theorem ok47 : okC 47 0 0 := ⟨rfl, rfl⟩
theorem ok48 : okC 48 0 0 := ⟨rfl, rfl⟩
theorem ok49 : okC 49 0 0 := ⟨rfl, rfl⟩
theorem ok50 : okC 50 0 0 := ⟨rfl, rfl⟩
theorem ok52 : okC 52 0 0 := ⟨rfl, rfl⟩
theorem ok53 : okC 53 0 0 := ⟨rfl, rfl⟩
theorem ok55 : okC 55 0 0 := ⟨rfl, rfl⟩
theorem ok56 : okC 56 0 0 := ⟨rfl, rfl⟩
theorem ok57 : okC 57 0 0 := ⟨rfl, rfl⟩
theorem ok58 : okC 58 0 0 := ⟨rfl, rfl⟩
