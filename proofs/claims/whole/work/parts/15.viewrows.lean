-- ===== stores in the views =====
section VIEW
variable {E : Ev} {d : Nat} {M : MI} {pc idx : Nat} {ls : List (Option Value)} {st : List Value} {m : Mem} {S : PS} {Q : Option Value → Hp → Prop} {k j : Nat}
theorem T.cist {n x : Nat} {y v : Int} (hd : decode M.2.1 pc = .ok (.iastore, 1)) (hk : kC k = true) (ho : okC k j 0) (hs : ∀ g, shape E k j 0 g = ints E n g) (hi : y = x) (hN : x < n) (kt : T E d M (pc + 1) ls st (hp E (wrC m j (upT S k x v))) Q) (hn : n < 2147483648 := by decide) : T E d M pc ls (.int (iI v) :: .int (iI y) :: rf E k j 0 :: st) (hp E (wrC m j S)) Q := by
  refine T.mist hd ho hs hi hN ?_ hn
  rw [up_wrC hk]; exact kt
theorem T.clst {n x : Nat} {y v : Int} (hd : decode M.2.1 pc = .ok (.lastore, 1)) (hk : kC k = true) (ho : okC k j 0) (hs : ∀ g, shape E k j 0 g = longs E n g) (hi : y = x) (hN : x < n) (kt : T E d M (pc + 1) ls st (hp E (wrC m j (upT S k x v))) Q) (hn : n < 2147483648 := by decide) : T E d M pc ls (.long (lI v) :: .int (iI y) :: rf E k j 0 :: st) (hp E (wrC m j S)) Q := by
  refine T.mlst hd ho hs hi hN ?_ hn
  rw [up_wrC hk]; exact kt
theorem T.czst {n x : Nat} {y v : Int} (hd : decode M.2.1 pc = .ok (.bastore, 1)) (hk : kC k = true) (ho : okC k j 0) (hs : ∀ g, shape E k j 0 g = bools E n g) (hi : y = x) (hN : x < n) (h01 : v = 0 ∨ v = 1) (kt : T E d M (pc + 1) ls st (hp E (wrC m j (upT S k x v))) Q) (hn : n < 2147483648 := by decide) : T E d M pc ls (.int (iI v) :: .int (iI y) :: rf E k j 0 :: st) (hp E (wrC m j S)) Q := by
  refine T.mzst hd ho hs hi hN h01 ?_ hn
  rw [up_wrC hk]; exact kt
theorem T.cputI {ci x : Nat} {fs : List Value} {v : Int} (hd : decode M.2.1 pc = .ok (.putfield idx, 3)) (hF : FP M.1.cls idx ci x .int false) (hk : kC k = true) (ho : okC k j 0) (hs : shape E k j 0 ((wrC m j S) k j 0) = .inr (ci, fs)) (hs2 : shape E k j 0 (upd1 ((wrC m j S) k j 0) x v) = .inr (ci, fs.set x (.int (iI v)))) (hl : x < fs.length) (kt : T E d M (pc + 3) ls st (hp E (wrC m j (upT S k x v))) Q) : T E d M pc ls (.int (iI v) :: rf E k j 0 :: st) (hp E (wrC m j S)) Q := by
  refine T.mputI hd hF ho hs hs2 hl ?_
  rw [up_wrC hk]; exact kt
theorem T.cputL {ci x : Nat} {fs : List Value} {v : Int} (hd : decode M.2.1 pc = .ok (.putfield idx, 3)) (hF : FP M.1.cls idx ci x .long false) (hk : kC k = true) (ho : okC k j 0) (hs : shape E k j 0 ((wrC m j S) k j 0) = .inr (ci, fs)) (hs2 : shape E k j 0 (upd1 ((wrC m j S) k j 0) x v) = .inr (ci, fs.set x (.long (lI v)))) (hl : x < fs.length) (kt : T E d M (pc + 3) ls st (hp E (wrC m j (upT S k x v))) Q) : T E d M pc ls (.long (lI v) :: rf E k j 0 :: st) (hp E (wrC m j S)) Q := by
  refine T.mputL hd hF ho hs hs2 hl ?_
  rw [up_wrC hk]; exact kt
theorem T.cputZ {ci x : Nat} {fs : List Value} {v : Int} (hd : decode M.2.1 pc = .ok (.putfield idx, 3)) (hF : FP M.1.cls idx ci x .boolean false) (h01 : v = 0 ∨ v = 1) (hk : kC k = true) (ho : okC k j 0) (hs : shape E k j 0 ((wrC m j S) k j 0) = .inr (ci, fs)) (hs2 : shape E k j 0 (upd1 ((wrC m j S) k j 0) x v) = .inr (ci, fs.set x (.int (iI v)))) (hl : x < fs.length) (kt : T E d M (pc + 3) ls st (hp E (wrC m j (upT S k x v))) Q) : T E d M pc ls (.int (iI v) :: rf E k j 0 :: st) (hp E (wrC m j S)) Q := by
  refine T.mputZ hd hF h01 ho hs hs2 hl ?_
  rw [up_wrC hk]; exact kt
theorem T.nist {n x : Nat} {y v : Int} (hd : decode M.2.1 pc = .ok (.iastore, 1)) (hk : kM k = true) (ho : okC k 0 0) (hs : ∀ g, shape E k 0 0 g = ints E n g) (hi : y = x) (hN : x < n) (kt : T E d M (pc + 1) ls st (hp E (wrM m (upT S k x v))) Q) (hn : n < 2147483648 := by decide) : T E d M pc ls (.int (iI v) :: .int (iI y) :: rf E k 0 0 :: st) (hp E (wrM m S)) Q := by
  refine T.mist hd ho hs hi hN ?_ hn
  rw [up_wrM hk]; exact kt
theorem T.nlst {n x : Nat} {y v : Int} (hd : decode M.2.1 pc = .ok (.lastore, 1)) (hk : kM k = true) (ho : okC k 0 0) (hs : ∀ g, shape E k 0 0 g = longs E n g) (hi : y = x) (hN : x < n) (kt : T E d M (pc + 1) ls st (hp E (wrM m (upT S k x v))) Q) (hn : n < 2147483648 := by decide) : T E d M pc ls (.long (lI v) :: .int (iI y) :: rf E k 0 0 :: st) (hp E (wrM m S)) Q := by
  refine T.mlst hd ho hs hi hN ?_ hn
  rw [up_wrM hk]; exact kt
theorem T.nzst {n x : Nat} {y v : Int} (hd : decode M.2.1 pc = .ok (.bastore, 1)) (hk : kM k = true) (ho : okC k 0 0) (hs : ∀ g, shape E k 0 0 g = bools E n g) (hi : y = x) (hN : x < n) (h01 : v = 0 ∨ v = 1) (kt : T E d M (pc + 1) ls st (hp E (wrM m (upT S k x v))) Q) (hn : n < 2147483648 := by decide) : T E d M pc ls (.int (iI v) :: .int (iI y) :: rf E k 0 0 :: st) (hp E (wrM m S)) Q := by
  refine T.mzst hd ho hs hi hN h01 ?_ hn
  rw [up_wrM hk]; exact kt
theorem T.nputI {ci x : Nat} {fs : List Value} {v : Int} (hd : decode M.2.1 pc = .ok (.putfield idx, 3)) (hF : FP M.1.cls idx ci x .int false) (hk : kM k = true) (ho : okC k 0 0) (hs : shape E k 0 0 ((wrM m S) k 0 0) = .inr (ci, fs)) (hs2 : shape E k 0 0 (upd1 ((wrM m S) k 0 0) x v) = .inr (ci, fs.set x (.int (iI v)))) (hl : x < fs.length) (kt : T E d M (pc + 3) ls st (hp E (wrM m (upT S k x v))) Q) : T E d M pc ls (.int (iI v) :: rf E k 0 0 :: st) (hp E (wrM m S)) Q := by
  refine T.mputI hd hF ho hs hs2 hl ?_
  rw [up_wrM hk]; exact kt
theorem T.nputL {ci x : Nat} {fs : List Value} {v : Int} (hd : decode M.2.1 pc = .ok (.putfield idx, 3)) (hF : FP M.1.cls idx ci x .long false) (hk : kM k = true) (ho : okC k 0 0) (hs : shape E k 0 0 ((wrM m S) k 0 0) = .inr (ci, fs)) (hs2 : shape E k 0 0 (upd1 ((wrM m S) k 0 0) x v) = .inr (ci, fs.set x (.long (lI v)))) (hl : x < fs.length) (kt : T E d M (pc + 3) ls st (hp E (wrM m (upT S k x v))) Q) : T E d M pc ls (.long (lI v) :: rf E k 0 0 :: st) (hp E (wrM m S)) Q := by
  refine T.mputL hd hF ho hs hs2 hl ?_
  rw [up_wrM hk]; exact kt
theorem T.nputZ {ci x : Nat} {fs : List Value} {v : Int} (hd : decode M.2.1 pc = .ok (.putfield idx, 3)) (hF : FP M.1.cls idx ci x .boolean false) (h01 : v = 0 ∨ v = 1) (hk : kM k = true) (ho : okC k 0 0) (hs : shape E k 0 0 ((wrM m S) k 0 0) = .inr (ci, fs)) (hs2 : shape E k 0 0 (upd1 ((wrM m S) k 0 0) x v) = .inr (ci, fs.set x (.int (iI v)))) (hl : x < fs.length) (kt : T E d M (pc + 3) ls st (hp E (wrM m (upT S k x v))) Q) : T E d M pc ls (.int (iI v) :: rf E k 0 0 :: st) (hp E (wrM m S)) Q := by
  refine T.mputZ hd hF h01 ho hs hs2 hl ?_
  rw [up_wrM hk]; exact kt
end VIEW
