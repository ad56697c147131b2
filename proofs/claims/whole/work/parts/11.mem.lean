-- ===== rows over the memory =====
def okA (k j i n : Nat) (E : Ev) (sh : Ev → Nat → (Nat → Int) → va_E) : Prop := ∀ g : Nat → Int, shape E k j i g = sh E n g
section MEM
variable {E : Ev} {d : Nat} {M N : MI} {pc idx : Nat} {ls : List (Option Value)} {st st0 : List Value} {m : Mem} {Q : Option Value → Hp → Prop} {k j i : Nat}
theorem T.mget {ci x : Nat} {fs : List Value} {v : Value} (hd : decode M.2.1 pc = .ok (.getfield idx, 3)) (hF : FO M.1.cls idx ci x) (ho : okC k j i) (hs : shape E k j i (m k j i) = .inr (ci, fs)) (hv : fs[x]? = some v) (kt : T E d M (pc + 3) ls (v :: st) (hp E m) Q) : T E d M pc ls (rf E k j i :: st) (hp E m) Q :=
  T.getf hd hF (hp_in ho) ((lay_at ho).trans hs) hv kt
theorem T.mputI {ci x : Nat} {fs : List Value} {v : Int} (hd : decode M.2.1 pc = .ok (.putfield idx, 3)) (hF : FP M.1.cls idx ci x .int false) (ho : okC k j i) (hs : shape E k j i (m k j i) = .inr (ci, fs)) (hs2 : shape E k j i (upd1 (m k j i) x v) = .inr (ci, fs.set x (.int (iI v)))) (hl : x < fs.length) (kt : T E d M (pc + 3) ls st (hp E (up m k j i x v)) Q) : T E d M pc ls (.int (iI v) :: rf E k j i :: st) (hp E m) Q := by
  refine T.putf hd hF (hp_in ho) ((lay_at ho).trans hs) rfl rfl hl ?_
  rw [hp_st ho hs2, ← up_S]
  exact kt
theorem T.mputL {ci x : Nat} {fs : List Value} {v : Int} (hd : decode M.2.1 pc = .ok (.putfield idx, 3)) (hF : FP M.1.cls idx ci x .long false) (ho : okC k j i) (hs : shape E k j i (m k j i) = .inr (ci, fs)) (hs2 : shape E k j i (upd1 (m k j i) x v) = .inr (ci, fs.set x (.long (lI v)))) (hl : x < fs.length) (kt : T E d M (pc + 3) ls st (hp E (up m k j i x v)) Q) : T E d M pc ls (.long (lI v) :: rf E k j i :: st) (hp E m) Q := by
  refine T.putf hd hF (hp_in ho) ((lay_at ho).trans hs) rfl rfl hl ?_
  rw [hp_st ho hs2, ← up_S]
  exact kt
theorem T.mputZ {ci x : Nat} {fs : List Value} {v : Int} (hd : decode M.2.1 pc = .ok (.putfield idx, 3)) (hF : FP M.1.cls idx ci x .boolean false) (h01 : v = 0 ∨ v = 1) (ho : okC k j i) (hs : shape E k j i (m k j i) = .inr (ci, fs)) (hs2 : shape E k j i (upd1 (m k j i) x v) = .inr (ci, fs.set x (.int (iI v)))) (hl : x < fs.length) (kt : T E d M (pc + 3) ls st (hp E (up m k j i x v)) Q) : T E d M pc ls (.int (iI v) :: rf E k j i :: st) (hp E m) Q := by
  refine T.putf hd hF (hp_in ho) ((lay_at ho).trans hs) (narZ h01) (fitZ h01) hl ?_
  rw [hp_st ho hs2, ← up_S]
  exact kt
theorem T.mild {n x : Nat} {y : Int} (hd : decode M.2.1 pc = .ok (.iaload, 1)) (ho : okC k j i) (hs : ∀ g, shape E k j i g = ints E n g) (hi : y = x) (hN : x < n) (kt : T E d M (pc + 1) ls (.int (iI (m k j i x)) :: st) (hp E m) Q) (hn : n < 2147483648 := by decide) : T E d M pc ls (.int (iI y) :: rf E k j i :: st) (hp E m) Q :=
  T.iald hd (hp_in ho) ((lay_at ho).trans (hs _)) hi hN hn kt
theorem T.mlld {n x : Nat} {y : Int} (hd : decode M.2.1 pc = .ok (.laload, 1)) (ho : okC k j i) (hs : ∀ g, shape E k j i g = longs E n g) (hi : y = x) (hN : x < n) (kt : T E d M (pc + 1) ls (.long (lI (m k j i x)) :: st) (hp E m) Q) (hn : n < 2147483648 := by decide) : T E d M pc ls (.int (iI y) :: rf E k j i :: st) (hp E m) Q :=
  T.lald hd (hp_in ho) ((lay_at ho).trans (hs _)) hi hN hn kt
theorem T.mzld {n x : Nat} {y : Int} (hd : decode M.2.1 pc = .ok (.baload, 1)) (ho : okC k j i) (hs : ∀ g, shape E k j i g = bools E n g) (hi : y = x) (hN : x < n) (kt : T E d M (pc + 1) ls (.int (iI (m k j i x)) :: st) (hp E m) Q) (hn : n < 2147483648 := by decide) : T E d M pc ls (.int (iI y) :: rf E k j i :: st) (hp E m) Q :=
  T.zald hd (hp_in ho) ((lay_at ho).trans (hs _)) hi hN hn kt
theorem T.mald {t n x : Nat} {y : Int} {C : String} {f : Nat → Nat} (hd : decode M.2.1 pc = .ok (.aaload, 1)) (ho : okC k j i) (hs : ∀ g, shape E k j i g = refs E t n f) (ht : (tyL E.2.2.2.1)[t]? = some (E.2.2.2.1 t, .object C)) (hi : y = x) (hN : x < n) (kt : T E d M (pc + 1) ls (.ref (f x) :: st) (hp E m) Q) (hn : n < 2147483648 := by decide) : T E d M pc ls (.int (iI y) :: rf E k j i :: st) (hp E m) Q :=
  T.aald hd (hp_in ho) ((lay_at ho).trans (hs _)) ht hi hN hn kt
theorem T.mlenI {n : Nat} (hd : decode M.2.1 pc = .ok (.arraylength, 1)) (ho : okC k j i) (hs : ∀ g, shape E k j i g = ints E n g) (kt : T E d M (pc + 1) ls (.int (iI n) :: st) (hp E m) Q) : T E d M pc ls (rf E k j i :: st) (hp E m) Q :=
  T.alen (ty := .int) hd (hp_in ho) ((lay_at ho).trans (hs _)) rfl kt
theorem T.mlenL {n : Nat} (hd : decode M.2.1 pc = .ok (.arraylength, 1)) (ho : okC k j i) (hs : ∀ g, shape E k j i g = longs E n g) (kt : T E d M (pc + 1) ls (.int (iI n) :: st) (hp E m) Q) : T E d M pc ls (rf E k j i :: st) (hp E m) Q :=
  T.alen (ty := .long) hd (hp_in ho) ((lay_at ho).trans (hs _)) rfl kt
theorem ints_up {n : Nat} {g : Nat → Int} {x : Nat} {v : Int} : ints E n (upd1 g x v) = .inl (E.2.2.2.1 0, n, .inl (upd (fun y => iI (g y)) x (iI v))) := by
  unfold ints upd1 upd
  congr 4
  funext y
  split <;> rfl
theorem bools_up {n : Nat} {g : Nat → Int} {x : Nat} {v : Int} : bools E n (upd1 g x v) = .inl (E.2.2.2.1 2, n, .inl (upd (fun y => iI (g y)) x (iI v))) := by
  unfold bools upd1 upd
  congr 4
  funext y
  split <;> rfl
theorem longs_up {n : Nat} {g : Nat → Int} {x : Nat} {v : Int} : longs E n (upd1 g x v) = .inl (E.2.2.2.1 1, n, .inr (.inl (vp_updL (fun y => lI (g y)) x (lI v)))) := by
  unfold longs upd1 vp_updL
  congr 5
  funext y
  split <;> rfl
theorem T.mist {n x : Nat} {y v : Int} (hd : decode M.2.1 pc = .ok (.iastore, 1)) (ho : okC k j i) (hs : ∀ g, shape E k j i g = ints E n g) (hi : y = x) (hN : x < n) (kt : T E d M (pc + 1) ls st (hp E (up m k j i x v)) Q) (hn : n < 2147483648 := by decide) : T E d M pc ls (.int (iI v) :: .int (iI y) :: rf E k j i :: st) (hp E m) Q := by
  refine T.iast hd (hp_in ho) ((lay_at ho).trans (hs _)) hi hN hn ?_
  rw [hp_st ho ((hs _).trans ints_up), ← up_S]
  exact kt
theorem T.mlst {n x : Nat} {y v : Int} (hd : decode M.2.1 pc = .ok (.lastore, 1)) (ho : okC k j i) (hs : ∀ g, shape E k j i g = longs E n g) (hi : y = x) (hN : x < n) (kt : T E d M (pc + 1) ls st (hp E (up m k j i x v)) Q) (hn : n < 2147483648 := by decide) : T E d M pc ls (.long (lI v) :: .int (iI y) :: rf E k j i :: st) (hp E m) Q := by
  refine T.last hd (hp_in ho) ((lay_at ho).trans (hs _)) hi hN hn ?_
  rw [hp_st ho ((hs _).trans longs_up), ← up_S]
  exact kt
theorem T.mzst {n x : Nat} {y v : Int} (hd : decode M.2.1 pc = .ok (.bastore, 1)) (ho : okC k j i) (hs : ∀ g, shape E k j i g = bools E n g) (hi : y = x) (hN : x < n) (h01 : v = 0 ∨ v = 1) (kt : T E d M (pc + 1) ls st (hp E (up m k j i x v)) Q) (hn : n < 2147483648 := by decide) : T E d M pc ls (.int (iI v) :: .int (iI y) :: rf E k j i :: st) (hp E m) Q := by
  refine T.zast hd (hp_in ho) ((lay_at ho).trans (hs _)) hi hN hn h01 ?_
  rw [hp_st ho ((hs _).trans bools_up), ← up_S]
  exact kt
/-- the first n of one row come into another -/
def cpS (m : Mem) (k j i k0 j0 i0 n : Nat) : Mem := updS m k j i (fun x => if x < n then m k0 j0 i0 x else m k j i x)
theorem T.mcpi {n n0 n1 k0 j0 i0 : Nat} {xs xd xn : Int} (hd : decode M.2.1 pc = .ok (.invokestatic idx, 3)) (hk : LKC M.1.cls idx) (ho : okC k j i) (hs : ∀ g, shape E k j i g = ints E n1 g) (ho0 : okC k0 j0 i0) (hs0 : ∀ g, shape E k0 j0 i0 g = ints E n0 g) (h1 : xs = 0) (h2 : xd = 0) (h3 : xn = n) (h4 : n ≤ n0) (h5 : n ≤ n1) (hdd : 1 ≤ d) (hrm : (st.map fun v => v.category).sum ≤ 8) (kt : T E d M (pc + 3) ls st (hp E (cpS m k j i k0 j0 i0 n)) Q) (hn0 : n0 < 1000000 := by decide) (hn1 : n1 < 1000000 := by decide) : T E d M pc ls (.int (iI xn) :: .int (iI xd) :: rf E k j i :: .int (iI xs) :: rf E k0 j0 i0 :: st) (hp E m) Q := by
  refine T.copyi (sp := 0) (dp := 0) hd hk (hp_in ho) ((lay_at ho).trans (hs _)) (hp_in ho0) ((lay_at ho0).trans (hs0 _)) h1 h2 h3 (by omega) (by omega) hn0 hn1 hdd hrm ?_
  have : shape E k j i (fun x => if x < n then m k0 j0 i0 x else m k j i x) = .inl (E.2.2.2.1 0, n1, .inl (va_cpy (fun x => iI (m k0 j0 i0 x)) (fun x => iI (m k j i x)) 0 0 n)) := by
    rw [hs]
    unfold ints va_cpy
    congr 4
    funext x
    by_cases hx : x < n <;> simp [hx]
  rw [hp_st ho this]
  exact kt
theorem T.mcpl {n n0 n1 k0 j0 i0 : Nat} {xs xd xn : Int} (hd : decode M.2.1 pc = .ok (.invokestatic idx, 3)) (hk : LKC M.1.cls idx) (ho : okC k j i) (hs : ∀ g, shape E k j i g = longs E n1 g) (ho0 : okC k0 j0 i0) (hs0 : ∀ g, shape E k0 j0 i0 g = longs E n0 g) (h1 : xs = 0) (h2 : xd = 0) (h3 : xn = n) (h4 : n ≤ n0) (h5 : n ≤ n1) (hdd : 1 ≤ d) (hrm : (st.map fun v => v.category).sum ≤ 8) (kt : T E d M (pc + 3) ls st (hp E (cpS m k j i k0 j0 i0 n)) Q) (hn0 : n0 < 1000000 := by decide) (hn1 : n1 < 1000000 := by decide) : T E d M pc ls (.int (iI xn) :: .int (iI xd) :: rf E k j i :: .int (iI xs) :: rf E k0 j0 i0 :: st) (hp E m) Q := by
  refine T.copyl (sp := 0) (dp := 0) hd hk (hp_in ho) ((lay_at ho).trans (hs _)) (hp_in ho0) ((lay_at ho0).trans (hs0 _)) h1 h2 h3 (by omega) (by omega) hn0 hn1 hdd hrm ?_
  have : shape E k j i (fun x => if x < n then m k0 j0 i0 x else m k j i x) = .inl (E.2.2.2.1 1, n1, .inr (.inl (va_cpy (fun x => lI (m k0 j0 i0 x)) (fun x => lI (m k j i x)) 0 0 n))) := by
    rw [hs]
    unfold longs va_cpy
    congr 5
    funext x
    by_cases hx : x < n <;> simp [hx]
  rw [hp_st ho this]
  exact kt
theorem T.mcallV {n dc ci k0 : Nat} {T0 : u_T} {fs As : List Value} {r : Option Value} {h1 : Hp} (hd : decode M.2.1 pc = .ok (.invokevirtual idx, 3)) (hk : LKV M.1.cls idx N n) (hct : CT E dc N (rf E k j i :: As) (hp E m) r h1) (ho : okC k j i) (hs : shape E k j i (m k j i) = .inr (ci, fs)) (hci : vwCl[ci]? = some (N.1.cls, T0, k0)) (hdc : dc + 1 ≤ d) (hn : As.length = n) (hst : st0 = As.reverse ++ rf E k j i :: st) (hrm : (st.map fun v => v.category).sum ≤ 8) (kt : T E d M (pc + 3) ls (r.toList ++ st) h1 Q) : T E d M pc ls st0 (hp E m) Q :=
  T.callV hd hk hct (hp_in ho) ((lay_at ho).trans hs) hci hdc hn hst hrm kt
theorem T.tcallV {n dc ci k0 : Nat} {T0 : u_T} {fs As : List Value} {Qc : Option Value → Hp → Prop} (hd : decode M.2.1 pc = .ok (.invokevirtual idx, 3)) (hk : LKV M.1.cls idx N n) (hct : TC E dc N (rf E k j i :: As) (hp E m) Qc) (ho : okC k j i) (hs : shape E k j i (m k j i) = .inr (ci, fs)) (hci : vwCl[ci]? = some (N.1.cls, T0, k0)) (hdc : dc + 1 ≤ d) (hn : As.length = n) (hst : st0 = As.reverse ++ rf E k j i :: st) (hrm : (st.map fun v => v.category).sum ≤ 8) (kt : ∀ r h1, Qc r h1 → T E d M (pc + 3) ls (r.toList ++ st) h1 Q) : T E d M pc ls st0 (hp E m) Q := by
  obtain ⟨r, h1, hct, q⟩ := hct
  exact T.mcallV hd hk hct ho hs hci hdc hn hst hrm (kt r h1 q)
theorem T.tcallS {n dc : Nat} {As : List Value} {h : Hp} {Qc : Option Value → Hp → Prop} (hd : decode M.2.1 pc = .ok (.invokestatic idx, 3)) (hk : LKS M.1.cls idx N n) (hct : TC E dc N As h Qc) (hdc : dc + 1 ≤ d) (hn : As.length = n) (hst : st0 = As.reverse ++ st) (hrm : (st.map fun v => v.category).sum ≤ 8) (kt : ∀ r h1, Qc r h1 → T E d M (pc + 3) ls (r.toList ++ st) h1 Q) : T E d M pc ls st0 h Q := by
  obtain ⟨r, h1, hct, q⟩ := hct
  exact T.callS hd hk hct hdc hn hst hrm (kt r h1 q)
end MEM
