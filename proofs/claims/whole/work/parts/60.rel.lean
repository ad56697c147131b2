abbrev mv (m : Mem) : PS := fun k => m k 0 0
/-- two books are alike -/
def BkR (β γ : PS) : Prop := β 12 0 = γ 12 0 ∧ β 13 0 = γ 13 0 ∧ (∀ d : Nat, (d : Int) < β 12 0 → ∀ f, f < 8 → β f d = γ f d) ∧ (∀ p : Nat, (p : Int) < β 13 0 → ∀ f, 8 ≤ f → f < 12 → β f p = γ f p) ∧ (∀ d : Nat, (d : Int) < β 12 0 → 1 ≤ β 0 d) ∧ ∀ p : Nat, (p : Int) < β 13 0 → 1 ≤ β 9 p
/-- a law and a text's letters are alike -/
def LwR (L : PS) (n : Int) (lt : Nat → Int) : Prop := L 0 0 = n ∧ (∀ k : Nat, (k : Int) < n → L 2 k = lt k) ∧ ∀ c : Nat, 97 ≤ c → c ≤ 122 → (hasB L c ↔ hmL lt c n.toNat = true)
/-- the model's kept book -/
def bkK (S : PS) : PS := fun f d => match f with
  | 0 => S 55 (8 * d)
  | 1 => S 55 (8 * d + 1)
  | 2 => S 55 (8 * d + 2)
  | 3 => S 55 (8 * d + 3)
  | 4 => S 55 (8 * d + 4)
  | 5 => S 55 (8 * d + 5)
  | 6 => S 55 (8 * d + 6)
  | 7 => S 55 (8 * d + 7)
  | 8 => S 55 (64 + 4 * d)
  | 9 => S 55 (64 + (4 * d + 1))
  | 10 => S 55 (64 + (4 * d + 2))
  | 11 => S 55 (64 + (4 * d + 3))
  | 12 => S 55 136
  | 13 => S 55 137
  | _ => 0
def ShR (m : Mem) (s : Nat) : Prop := m 56 0 0 s = (if m 27 s 0 0 = 0 then -1 else m 27 s 0 3) ∧ m 57 0 0 s = m 27 s 0 1 ∧ ∀ i, i < 24 → m 58 0 0 (24 * s + i) = m 28 s 0 i
def Rel (m : Mem) : Prop := BkR (bk m 0) (bkM (mv m)) ∧ (∀ l, l < 2 → LwR (lw m l) (mv m 37 l) (fun k => mv m 36 (12 * l + k))) ∧ m 24 0 0 1 = m 29 0 0 5 ∧ (∀ i : Nat, (i : Int) < m 24 0 0 1 → m 25 0 0 i = m 34 0 0 i) ∧ (∀ s, s < 4 → ShR m s) ∧ m 0 0 0 2 = m 29 0 0 24 ∧ (m 0 0 0 2 ≠ 0 → BkR (bk m 1) (bkK (mv m)) ∧ ∀ l, l < 2 → LwR (lw m (2 + l)) (mv m 55 (138 + l)) (fun k => mv m 55 (112 + (12 * l + k)))) ∧ ∀ x, x < 24 → 0 ≤ m 55 0 0 (112 + x) ∧ m 55 0 0 (112 + x) ≤ 127
def Good (m : Mem) : Prop := Inv m ∧ Rel m
/-- a call of the class and the same of the model answer alike, and leave them alike -/
def SimX (Cr : Mem → Int) (Cm : Mem → Mem) (Nr : PS → Int) (Ns : PS → PS) : Prop := ∀ m, Good m → Inv (Cm m) ∧ mOK (mv (Cm m)) ∧ Cr m = Nr (mv (Cm m)) ∧ Good (wrM (Cm m) (Ns (mv (Cm m))))
def Sim_debt : Prop := ∀ (w s u t : Int), rg w → rg s → rg u → rg t → SimX (fun m => debtR m w s u t) (fun m => debtM m w s u t) (fun S => ndebtR S w s u t) (fun S => ndebtS S w s u t)
def Sim_set : Prop := ∀ (d t v : Int), rg d → rg t → rg v → SimX (fun m => setR m d t v) (fun m => setM m d t v) (fun S => nsetR S d t v) (fun S => nsetS S d t v)
def Sim_pay : Prop := ∀ (y w : Int), rg y → rg w → SimX (fun m => payR m y w) (fun m => payM m y w) (fun S => npayR S y w) (fun S => npayS S y w)
def Sim_pays : Prop := ∀ (s la fr n : Int), rg s → rg la → rg fr → rg n → SimX (fun m => paysR m s la fr n) (fun m => paysM m s la fr n) (fun S => npaysR S s la fr n) (fun S => npaysS S s la fr n)
def Sim_word : Prop := ∀ (p t d : Int), rg p → rg t → rg d → SimX (fun m => wordR m p t d) (fun m => wordM m p t d) (fun S => nwordR S p t d) (fun S => nwordS S p t d)
def Sim_move : Prop := ∀ (p y : Int), rg p → rg y → SimX (fun m => moveR m p y) (fun m => moveM m p y) (fun S => nmoveR S p y) (fun S => nmoveS S p y)
def Sim_count : Prop := ∀ (t : Int), rg t → SimX (fun m => countR m t) (fun m => countM m t) (fun S => ncountR S t) (fun S => ncountS S t)
def Sim_type : Prop := ∀ (w : Int64) (n : Int), rg n → SimX (fun m => typeR m w n) (fun m => typeM m w n) (fun S => ntypeR S w n) (fun S => ntypeS S w n)
def Sim_law : Prop := ∀ (l : Int), rg l → SimX (fun m => lawR m l) (fun m => lawM m l) (fun S => nlawR S l) (fun S => nlawS S l)
def Sim_letter : Prop := ∀ (l i : Int), rg l → rg i → SimX (fun m => letterR m l i) (fun m => letterM m l i) (fun S => nletterR S l i) (fun S => nletterS S l i)
def Sim_left : Prop := ∀ (l d y t : Int), rg l → rg d → rg y → rg t → SimX (fun m => leftR m l d y t) (fun m => leftM m l d y t) (fun S => nleftR S l d y t) (fun S => nleftS S l d y t)
def Sim_owed : Prop := ∀ (l y : Int), rg l → rg y → SimX (fun m => owedR m l y) (fun m => owedM m l y) (fun S => nowedR S l y) (fun S => nowedS S l y)
def Sim_put : Prop := ∀ (l p d t : Int), rg l → rg p → rg d → rg t → SimX (fun m => putR m l p d t) (fun m => putM m l p d t) (fun S => nputR S l p d t) (fun S => nputS S l p d t)
def Sim_paid : Prop := ∀ N : Nat, N = 300 → ∀ (l d : Int), rg l → rg d → SimX (fun m => paidR m l d) (fun m => paidM m l d) (fun S => npaidR S N l d) (fun S => npaidS S N l d)
def Sim_dead : Prop := ∀ (l d y : Int), rg l → rg d → rg y → SimX (fun m => deadR m l d y) (fun m => deadM m l d y) (fun S => ndeadR S l d y) (fun S => ndeadS S l d y)
def Sim_wakes : Prop := ∀ N : Nat, N = 300 → ∀ (l d : Int), rg l → rg d → SimX (fun m => wakesR m l d) (fun m => wakesM m l d) (fun S => nwakesR S N l d) (fun S => nwakesS S N l d)
def Sim_free : Prop := ∀ N : Nat, N = 300 → ∀ (l t : Int), rg l → rg t → SimX (fun m => freeR m l t) (fun m => freeM m l t) (fun S => nfreeR S N l t) (fun S => nfreeS S N l t)
def Sim_rank : Prop := ∀ (l y i : Int), rg l → rg y → rg i → SimX (fun m => rankR m l y i) (fun m => rankM m l y i) (fun S => nrankR S l y i) (fun S => nrankS S l y i)
def Sim_best : Prop := ∀ (l n y i : Int), rg l → rg n → rg y → rg i → SimX (fun m => bestR m l n y i) (fun m => bestM m l n y i) (fun S => nbestR S l n y i) (fun S => nbestS S l n y i)
def Sim_least : Prop := ∀ (l n y : Int), rg l → rg n → rg y → SimX (fun m => leastR m l n y) (fun m => leastM m l n y) (fun S => nleastR S l n y) (fun S => nleastS S l n y)
def Sim_answer : Prop := ∀ (l p y : Int), rg l → rg p → rg y → SimX (fun m => answerR m l p y) (fun m => answerM m l p y) (fun S => nanswerR S l p y) (fun S => nanswerS S l p y)
def Sim_hangs : Prop := ∀ (l p fr to y t : Int), rg l → rg p → rg fr → rg to → rg y → rg t → SimX (fun m => hangsR m l p fr to y t) (fun m => hangsM m l p fr to y t) (fun S => nhangsR S l p fr to y t) (fun S => nhangsS S l p fr to y t)
def Sim_plan : Prop := ∀ N : Nat, N = 300 → ∀ (l w y e t : Int), rg l → rg w → rg y → rg e → rg t → SimX (fun m => planR m l w y e t) (fun m => planM m l w y e t) (fun S => nplanR S N l w y e t) (fun S => nplanS S N l w y e t)
def Sim_parts : Prop := ∀ N : Nat, N = 300 → SimX (fun m => partsR m) (fun m => partsM m) (fun S => npartsR S N) (fun S => npartsS S N)
def Sim_gap : Prop := ∀ (y : Int), rg y → SimX (fun m => gapR m y) (fun m => gapM m y) (fun S => ngapR S y) (fun S => ngapS S y)
def Sim_judge : Prop := ∀ (l y s la fr : Int), rg l → rg y → rg s → rg la → rg fr → SimX (fun m => judgeR m l y s la fr) (fun m => judgeM m l y s la fr) (fun S => njudgeR S l y s la fr) (fun S => njudgeS S l y s la fr)
def Sim_image : Prop := SimX (fun m => 1) (fun m => imageM m) (fun S => 1) (fun S => nimageS S)
def Sim_restore : Prop := SimX (fun m => restoreR m) (fun m => restoreM m) (fun S => nrestoreR S) (fun S => nrestoreS S)
def Sim_sheet : Prop := ∀ (s la n : Int), rg s → rg la → rg n → SimX (fun m => sheetR m s la n) (fun m => sheetM m s la n) (fun S => nsheetR S s la n) (fun S => nsheetS S s la n)
def Sim_drop : Prop := ∀ (s : Int), rg s → SimX (fun m => dropR m s) (fun m => dropM m s) (fun S => ndropR S s) (fun S => ndropS S s)
def Sim_item : Prop := ∀ (s la i v : Int), rg s → rg la → rg i → rg v → SimX (fun m => itemR m s la i v) (fun m => itemM m s la i v) (fun S => nitemR S s la i v) (fun S => nitemS S s la i v)
def Sims : Prop := Sim_debt ∧ Sim_set ∧ Sim_pay ∧ Sim_pays ∧ Sim_word ∧ Sim_move ∧ Sim_count ∧ Sim_type ∧ Sim_law ∧ Sim_letter ∧ Sim_left ∧ Sim_owed ∧ Sim_put ∧ Sim_paid ∧ Sim_dead ∧ Sim_wakes ∧ Sim_free ∧ Sim_rank ∧ Sim_best ∧ Sim_least ∧ Sim_answer ∧ Sim_hangs ∧ Sim_plan ∧ Sim_parts ∧ Sim_gap ∧ Sim_judge ∧ Sim_image ∧ Sim_restore ∧ Sim_sheet ∧ Sim_drop ∧ Sim_item
