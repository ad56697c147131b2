-- ===== what class and model compute, over their numbers =====
/-- a book's numbers: 0 whole, 1 since, 2 due, 3 rate, 4 itself, 5 pledge, 6 stands, 7 time of a debt; 8 day, 9 whole, 10 word, 11 answer of a payment; 12, 13 how many -/
def bk (m : Mem) (b : Nat) : PS := fun f d => match f with
  | 0 => m 5 b d 0
  | 1 => m 5 b d 1
  | 2 => m 6 b d 5
  | 3 => m 6 b d 4
  | 4 => m 6 b d 0
  | 5 => m 6 b d 1
  | 6 => m 6 b d 2
  | 7 => m 6 b d 3
  | 8 => m 7 b d 0
  | 9 => m 7 b d 1
  | 10 => m 7 b d 2
  | 11 => m 7 b d 3
  | 12 => m 1 b 0 1
  | 13 => m 1 b 0 3
  | _ => 0
/-- a law's numbers: 0 how many letters, 1 its bits, 2 the letters -/
def lw (m : Mem) (q : Nat) : PS := fun f x => match f with
  | 0 => m 8 q 0 1
  | 1 => m 8 q 0 2
  | _ => m 9 q 0 x
abbrev hasB (L : PS) (c : Nat) : Prop := L 1 0 / 2 ^ (c - 97) % 2 = 1
abbrev opS (β S : PS) (d : Int) : Prop := 0 ≤ d ∧ d < β 12 0 ∧ β 1 d.toNat ≤ S 10 2 ∧ 0 < S 11 d.toNat + S 12 d.toNat
def leftS (β S : PS) (d : Nat) : Int := if β 1 d ≤ S 10 2 then S 11 d + S 12 d else 0
def owedL (β S : PS) : Nat → Int
  | 0 => 0
  | d + 1 => owedL β S d + leftS β S d
def runI (s r rate : Int) : Nat → Int
  | 0 => r
  | n + 1 => runI s r rate n + (s + runI s r rate n) * rate / 10000
def runOnS (β S : PS) (d : Nat) (days : Int) : PS :=
  if days ≤ 0 ∨ β 3 d = 0 then S else if β 4 d = 0 then upT S 12 d (S 12 d + S 11 d * β 3 d / 10000 * days) else upT S 12 d (runI (S 11 d) (S 12 d) (β 3 d) days.toNat)
def runToL (β S : PS) (target : Int) : Nat → PS
  | 0 => S
  | d + 1 => runOnS β (runToL β S target d) d (target - max (S 10 2) (β 1 d))
def runToS (β S : PS) (target : Int) : PS := if target ≤ S 10 2 then S else upT (upT (runToL β S target (β 12 0).toNat) 10 2 target) 10 3 (-1)
def nextL (β S : PS) (latest : Int) : Nat → Int × Int
  | 0 => (-1, latest + 1)
  | p + 1 => if (S 10 2 < β 8 p ∨ (β 8 p = S 10 2 ∧ S 10 3 < p)) ∧ β 8 p < (nextL β S latest p).2 then (p, β 8 p) else nextL β S latest p
def nextS (β S : PS) (latest : Int) : Int := (nextL β S latest (β 13 0).toNat).1
noncomputable def deadF (β S : PS) (d : Nat) : Int := bZ (0 < β 7 d ∧ max (β 2 d) (S 13 d) + β 7 d < S 10 2 ∧ opS β S d)
noncomputable def deadL (β S : PS) : Nat → PS
  | 0 => S
  | d + 1 => upT (deadL β S d) 16 d (deadF β S d)
noncomputable def deadS (β S : PS) : PS := deadL β S (β 12 0).toNat
-- the order of debts
def keyV (β : PS) (day : Int) (left : Nat → Int) (c : Int) (a : Nat) : Int :=
  if c = 100 then (if β 2 a ≤ day then 0 else 1) else if c = 104 then - β 3 a else if c = 117 then (if β 5 a < 0 ∧ β 6 a = 0 then 0 else 1) else if c = 111 then β 1 a else if c = 108 then - left a else 0
def sg (x y : Int) : Int := if x < y then -1 else if x = y then 0 else 1
def cmpN (β : PS) (day : Int) (left : Nat → Int) (lt : Nat → Int) (a b : Nat) : Nat → Int
  | 0 => 0
  | n + 1 => if cmpN β day left lt a b n = 0 then sg (keyV β day left (lt n) a) (keyV β day left (lt n) b) else cmpN β day left lt a b n
theorem cmpN_stop {β : PS} {day : Int} {left lt : Nat → Int} {a b i : Nat} {r : Int} (h0 : cmpN β day left lt a b i = 0) (h1 : sg (keyV β day left (lt i) a) (keyV β day left (lt i) b) = r) (hr : r ≠ 0) : ∀ n, i + 1 ≤ n → cmpN β day left lt a b n = r := by
  intro n hn
  induction n with
  | zero => omega
  | succ n ih =>
    by_cases h : i + 1 ≤ n
    · have := ih h
      simp only [cmpN, this]
      rw [if_neg hr]
    · have : n = i := by omega
      subst this
      simp only [cmpN, h0, if_true, h1]
def insF (cmp : Nat → Nat → Int) (ord : Nat → Int) (d : Nat) : Nat → (Nat → Int)
  | 0 => upd1 ord 0 d
  | p + 1 => if cmp d (ord p).toNat < 0 then insF cmp (upd1 ord (p + 1) (ord p)) d p else upd1 ord (p + 1) d
def ordL (ok : Nat → Bool) (cmp : Nat → Nat → Int) (ord : Nat → Int) : Nat → Nat × (Nat → Int)
  | 0 => (0, ord)
  | d + 1 => if ok d = true then ((ordL ok cmp ord d).1 + 1, insF cmp (ordL ok cmp ord d).2 d (ordL ok cmp ord d).1) else ordL ok cmp ord d
abbrev cmpS (β L S : PS) (a b : Nat) : Int := cmpN β (S 10 2) (fun x => S 11 x + S 12 x) (L 2) a b (L 0 0).toNat
def okS1 (β L S : PS) (d : Nat) : Bool := decide (opS β S d) && !(decide (hasB L 120) && decide (S 16 d ≠ 0))
def ordS (β L S : PS) : Nat × (Nat → Int) := ordL (okS1 β L S) (cmpS β L S) (S 17) (β 12 0).toNat
-- giving
def gvn (S : PS) (d : Nat) (a : Int) : Int := min a (S 11 d + S 12 d)
def gvS (L S : PS) (d : Nat) (g : Int) : Int := if hasB L 115 then min g (S 11 d) else g - min g (S 12 d)
def giveR (S : PS) (d : Nat) (a : Int) : Int := if gvn S d a ≤ 0 then 0 else gvn S d a
def giveT (S : PS) (d : Nat) (ts tr : Int) : PS := upT (upT (upT (upT (upT S 11 d (S 11 d - ts)) 12 d (S 12 d - tr)) 18 d (S 18 d + ts)) 19 d (S 19 d + tr)) 13 d (S 10 2)
def giveW (S : PS) (d : Nat) (T : PS) : PS := if S 16 d ≠ 0 ∧ S 15 d = -1 then upT T 15 d (S 10 2) else T
def giveP (S : PS) (d : Nat) (ts tr : Int) (T : PS) : PS := if (S 11 d - ts) + (S 12 d - tr) = 0 then upT T 14 d (S 10 2) else T
def giveS (L S : PS) (d : Nat) (a : Int) : PS :=
  if gvn S d a ≤ 0 then S else giveP S d (gvS L S d (gvn S d a)) (gvn S d a - gvS L S d (gvn S d a)) (giveW S d (giveT S d (gvS L S d (gvn S d a)) (gvn S d a - gvS L S d (gvn S d a))))
-- sharing
def allL (S : PS) (fr : Nat) : Nat → Int
  | 0 => 0
  | k + 1 => allL S fr k + (S 11 (S 17 (fr + k)).toNat + S 12 (S 17 (fr + k)).toNat)
def sh1 (L S : PS) (fr : Nat) (a all : Int) : Nat → PS × Int
  | 0 => (S, a)
  | k + 1 =>
    let q := sh1 L S fr a all k
    let e := (S 17 (fr + k)).toNat
    (giveS L q.1 e (a * (q.1 11 e + q.1 12 e) / all), q.2 - giveR q.1 e (a * (q.1 11 e + q.1 12 e) / all))
def sh2 (L S : PS) (fr : Nat) (a : Int) : Nat → PS × Int
  | 0 => (S, a)
  | k + 1 =>
    let q := sh2 L S fr a k
    let e := (S 17 (fr + k)).toNat
    (giveS L q.1 e q.2, q.2 - giveR q.1 e q.2)
def shareS (L S : PS) (fr en : Nat) (a : Int) : PS × Int :=
  let all := allL S fr (en - fr)
  let q := if 0 < all ∧ a < all then sh1 L S fr a all (en - fr) else (S, a)
  sh2 L q.1 fr q.2 (en - fr)
-- a sum is put
def grE (β L S : PS) (n fr : Nat) : Nat → Nat → Nat
  | 0, e => e
  | f + 1, e => if hasB L 112 ∧ e < n ∧ cmpS β L S (S 17 fr).toNat (S 17 e).toNat = 0 then grE β L S n fr f (e + 1) else e
def dsL (β L : PS) (n : Nat) : Nat → Nat → PS → Int → PS × Int
  | 0, _, S, o => (S, o)
  | f + 1, fr, S, o => if fr < n ∧ 0 < o then dsL β L n f (grE β L S n fr n (fr + 1)) (shareS L S fr (grE β L S n fr n (fr + 1)) o).1 (shareS L S fr (grE β L S n fr n (fr + 1)) o).2 else (S, o)
def fil0 (g : Nat → Int) (n : Nat) (v : Int) : Nat → Int := fun x => if x < n then v else g x
noncomputable def dist0 (β S : PS) : PS := deadS β (setT (setT S 18 (fil0 (S 18) 8 0)) 19 (fil0 (S 19) 8 0))
noncomputable def dist1 (β L S : PS) (a c : Int) : PS × Int := if c = -1 then (dist0 β S, a) else (giveS L (dist0 β S) c.toNat a, a - giveR (dist0 β S) c.toNat a)
noncomputable def dist2 (β L S : PS) (a c : Int) : Nat × PS := if 0 < (dist1 β L S a c).2 then ((ordS β L (dist1 β L S a c).1).1, setT (dist1 β L S a c).1 17 (ordS β L (dist1 β L S a c).1).2) else (0, (dist1 β L S a c).1)
noncomputable def dist3 (β L S : PS) (a c : Int) : PS × Int := dsL β L (dist2 β L S a c).1 (dist2 β L S a c).1 0 (dist2 β L S a c).2 (dist1 β L S a c).2
noncomputable def distS (β L S : PS) (a c : Int) : PS := upT (dist3 β L S a c).1 10 13 (dist3 β L S a c).2
def chS (β L S : PS) (p : Nat) : Int := if hasB L 99 ∧ opS β S (β 10 p) then β 10 p else if hasB L 116 ∧ opS β S (β 11 p) then β 11 p else -1
def tak0 (β S : PS) (p : Nat) : PS := upT (runToS β S (β 8 p)) 10 3 p
noncomputable def takeS (β L S : PS) (p : Nat) : PS := distS β L (tak0 β S p) (β 9 p * 10000) (chS β L (tak0 β S p) p)
noncomputable def gbL (β L : PS) (t : Int) : Nat → PS → PS
  | 0, S => S
  | f + 1, S => if 0 ≤ nextS β S t then gbL β L t f (takeS β L S (nextS β S t).toNat) else S
noncomputable def gbS (β L S : PS) (t : Int) : PS := runToS β (gbL β L t 12 S) t
noncomputable def tuL (β L : PS) (p : Nat) : Nat → PS → Int → PS
  | 0, S, _ => S
  | f + 1, S, nx => if 0 ≤ nx then tuL β L p f (takeS β L S nx.toNat) (if nx = p then -1 else nextS β (takeS β L S nx.toNat) 299) else S
noncomputable def tuS (β L S : PS) (p : Nat) : PS := tuL β L p 12 S (nextS β S 299)
def stL (β S : PS) : Nat → PS
  | 0 => S
  | d + 1 => upT (upT (upT (upT (upT (stL β S d) 11 d (β 0 d * 10000)) 12 d 0) 13 d (-1)) 14 d (-1)) 15 d (-1)
def stS (β S : PS) : PS := stL β (upT (upT (upT S 10 2 0) 10 3 (-1)) 10 13 0) (β 12 0).toNat
