-- books alike but for the words of payments
theorem keyV_t {β β' : PS} (h : ∀ f, f ≠ 10 → β' f = β f) {day : Int} {left : Nat → Int} {c : Int} {a : Nat} : keyV β' day left c a = keyV β day left c a := by
  unfold keyV
  rw [h 2 (by omega), h 3 (by omega), h 5 (by omega), h 6 (by omega), h 1 (by omega)]
theorem cmpN_t {β β' : PS} (h : ∀ f, f ≠ 10 → β' f = β f) {day : Int} {left lt : Nat → Int} {a b : Nat} : ∀ n, cmpN β' day left lt a b n = cmpN β day left lt a b n
  | 0 => rfl
  | n + 1 => by
    unfold cmpN
    rw [cmpN_t h n, keyV_t h, keyV_t h]
theorem op_t {β β' S : PS} (h : ∀ f, f ≠ 10 → β' f = β f) {d : Int} : opS β' S d ↔ opS β S d := by
  unfold opS
  rw [h 12 (by omega), h 1 (by omega)]
theorem leftS_t {β β' S : PS} (h : ∀ f, f ≠ 10 → β' f = β f) {d : Nat} : leftS β' S d = leftS β S d := by
  unfold leftS
  rw [h 1 (by omega)]
theorem owedL_t {β β' S : PS} (h : ∀ f, f ≠ 10 → β' f = β f) : ∀ n, owedL β' S n = owedL β S n
  | 0 => rfl
  | n + 1 => by
    unfold owedL
    rw [owedL_t h n, leftS_t h]
theorem runOnS_t {β β' S : PS} (h : ∀ f, f ≠ 10 → β' f = β f) {d : Nat} {days : Int} : runOnS β' S d days = runOnS β S d days := by
  unfold runOnS
  rw [h 3 (by omega), h 4 (by omega)]
theorem runToL_t {β β' S : PS} (h : ∀ f, f ≠ 10 → β' f = β f) {t : Int} : ∀ n, runToL β' S t n = runToL β S t n
  | 0 => rfl
  | n + 1 => by
    unfold runToL
    rw [runToL_t h n, runOnS_t h, h 1 (by omega)]
theorem runToS_t {β β' S : PS} (h : ∀ f, f ≠ 10 → β' f = β f) {t : Int} : runToS β' S t = runToS β S t := by
  unfold runToS
  rw [runToL_t h, h 12 (by omega)]
theorem deadF_t {β β' S : PS} (h : ∀ f, f ≠ 10 → β' f = β f) {d : Nat} : deadF β' S d = deadF β S d := by
  unfold deadF
  rw [op_t h, h 7 (by omega), h 2 (by omega)]
theorem deadL_t {β β' S : PS} (h : ∀ f, f ≠ 10 → β' f = β f) : ∀ n, deadL β' S n = deadL β S n
  | 0 => rfl
  | n + 1 => by
    unfold deadL
    rw [deadL_t h n, deadF_t h]
theorem dist0_t {β β' S : PS} (h : ∀ f, f ≠ 10 → β' f = β f) : dist0 β' S = dist0 β S := by
  unfold dist0 deadS
  rw [deadL_t h, h 12 (by omega)]
theorem cmpS_t {β β' L S : PS} (h : ∀ f, f ≠ 10 → β' f = β f) : cmpS β' L S = cmpS β L S := by
  funext a b
  unfold cmpS
  exact cmpN_t h _
theorem ordS_t {β β' L S : PS} (h : ∀ f, f ≠ 10 → β' f = β f) : ordS β' L S = ordS β L S := by
  have e1 : okS1 β' L S = okS1 β L S := by
    funext d
    unfold okS1
    rw [decide_eq_decide.mpr (op_t (S := S) (d := (d : Int)) h)]
  unfold ordS
  rw [e1, cmpS_t h, h 12 (by omega)]
theorem grE_t {β β' L S : PS} (h : ∀ f, f ≠ 10 → β' f = β f) {n fr : Nat} : ∀ f e, grE β' L S n fr f e = grE β L S n fr f e
  | 0, e => rfl
  | f + 1, e => by
    unfold grE
    rw [grE_t h f, cmpS_t h]
theorem dsL_t {β β' L : PS} (h : ∀ f, f ≠ 10 → β' f = β f) {n : Nat} : ∀ f fr S o, dsL β' L n f fr S o = dsL β L n f fr S o
  | 0, fr, S, o => rfl
  | f + 1, fr, S, o => by
    unfold dsL
    rw [grE_t h, dsL_t h f]
theorem distS_t {β β' L S : PS} (h : ∀ f, f ≠ 10 → β' f = β f) {a c : Int} : distS β' L S a c = distS β L S a c := by
  have e1 : dist1 β' L S a c = dist1 β L S a c := by unfold dist1; rw [dist0_t h]
  have e2 : dist2 β' L S a c = dist2 β L S a c := by unfold dist2; rw [e1, ordS_t h]
  have e3 : dist3 β' L S a c = dist3 β L S a c := by unfold dist3; rw [e1, e2, dsL_t h]
  unfold distS
  rw [e3]
theorem chS_t {β β' L S : PS} (h : ∀ f, f ≠ 10 → β' f = β f) {p : Nat} (hp' : β' 10 p = β 10 p) : chS β' L S p = chS β L S p := by
  unfold chS
  rw [hp', h 11 (by omega)]
  simp only [op_t h]
theorem tak0_t {β β' S : PS} (h : ∀ f, f ≠ 10 → β' f = β f) {p : Nat} : tak0 β' S p = tak0 β S p := by
  unfold tak0
  rw [runToS_t h, h 8 (by omega)]
theorem takeS_t {β β' L S : PS} (h : ∀ f, f ≠ 10 → β' f = β f) {p : Nat} (hp' : β' 10 p = β 10 p) : takeS β' L S p = takeS β L S p := by
  unfold takeS
  rw [distS_t h, tak0_t h, chS_t h hp', h 9 (by omega)]
theorem takeS_nh {β β' L S : PS} (h : ∀ f, f ≠ 10 → β' f = β f) {p : Nat} (h1 : ¬ (hasB L 99 ∧ opS β (tak0 β S p) (β 10 p))) (h2 : ¬ (hasB L 99 ∧ opS β (tak0 β S p) (β' 10 p))) : takeS β' L S p = takeS β L S p := by
  unfold takeS
  rw [distS_t h, tak0_t h, h 9 (by omega)]
  have e : chS β' L (tak0 β S p) p = chS β L (tak0 β S p) p := by
    unfold chS
    rw [h 11 (by omega)]
    simp only [op_t h]
    rw [if_neg h1, if_neg h2]
  rw [e]
theorem nextL_t {β β' S : PS} {t : Int} (h : β' 8 = β 8) : ∀ n, nextL β' S t n = nextL β S t n
  | 0 => rfl
  | n + 1 => by
    unfold nextL
    rw [nextL_t h n, h]
theorem nextS_t {β β' S : PS} {t : Int} (h : ∀ f, f ≠ 10 → β' f = β f) : nextS β' S t = nextS β S t := by
  unfold nextS
  rw [nextL_t (h 8 (by omega)), h 13 (by omega)]
theorem RemP_t {β β' S : PS} {q : Nat} (h : ∀ f, f ≠ 10 → β' f = β f) : RemP β' S q ↔ RemP β S q := by
  unfold RemP
  rw [h 8 (by omega)]
/-- a book, the model, with other words for the first n payments -/
def bW (β : PS) (n : Nat) (W : Nat → Int) : PS := setT β 10 (fun p => if p < n then W p else β 10 p)
def SW (S : PS) (n : Nat) (W : Nat → Int) : PS := fun k x => if k = 33 ∧ x % 4 = 2 ∧ x / 4 < n then W (x / 4) else S k x
theorem bW_f {β : PS} {n : Nat} {W : Nat → Int} : ∀ f, f ≠ 10 → bW β n W f = β f := fun f h => setT_d h
theorem bW_10 {β : PS} {n p : Nat} {W : Nat → Int} : bW β n W 10 p = if p < n then W p else β 10 p := by
  unfold bW
  rw [setT_k]
theorem SW_k {S : PS} {n k : Nat} {W : Nat → Int} (h : k ≠ 33) : SW S n W k = S k := by
  funext x
  unfold SW
  rw [if_neg (fun e => h e.1)]
theorem SW_x {S : PS} {n x : Nat} {W : Nat → Int} (h : ¬ (x % 4 = 2 ∧ x / 4 < n)) : SW S n W 33 x = S 33 x := by
  unfold SW
  rw [if_neg (fun e => h e.2)]
theorem CR.bw {β L S : PS} {l n : Nat} {W : Nat → Int} (h : CR β L S l) : CR (bW β n W) L (SW S n W) l := by
  obtain ⟨⟨h1, h2, h3, h4, h5, h6⟩, hL, h7, h8, h9⟩ := h
  unfold CR BkR
  have k : ∀ f, f ≠ 10 → bW β n W f = β f := bW_f
  rw [k 12 (by omega), k 13 (by omega), k 0 (by omega), k 9 (by omega), k 4 (by omega), k 3 (by omega), SW_k (show 36 ≠ 33 by omega), SW_k (show 37 ≠ 33 by omega)]
  refine ⟨⟨?_, ?_, fun d hd f hf => ?_, fun q hq f hf hf2 => ?_, h5, h6⟩, hL, h7, h8, h9⟩
  · show β 12 0 = SW S n W 29 0
    rw [SW_k (by omega)]; exact h1
  · show β 13 0 = SW S n W 29 2
    rw [SW_k (by omega)]; exact h2
  · rw [k f (by omega), h3 d hd f hf]
    have e : ∀ x, SW S n W 31 x = S 31 x := fun x => by rw [SW_k (by omega)]
    revert f
    refine lt8 ?_ ?_ ?_ ?_ ?_ ?_ ?_ ?_ <;> exact (e _).symm
  · have g := h4 q hq
    rcases (show f = 8 ∨ f = 9 ∨ f = 10 ∨ f = 11 by omega) with rfl | rfl | rfl | rfl
    · rw [k 8 (by omega)]
      show β 8 q = SW S n W 33 (4 * q)
      rw [SW_x (by omega)]
      exact g 8 (by omega) (by omega)
    · rw [k 9 (by omega)]
      show β 9 q = SW S n W 33 (4 * q + 1)
      rw [SW_x (by omega)]
      exact g 9 (by omega) (by omega)
    · rw [bW_10]
      show _ = SW S n W 33 (4 * q + 2)
      by_cases c : q < n
      · unfold SW
        rw [if_pos c, if_pos (by omega), show (4 * q + 2) / 4 = q by omega]
      · rw [if_neg c, SW_x (by omega)]
        exact g 10 (by omega) (by omega)
    · rw [k 11 (by omega)]
      show β 11 q = SW S n W 33 (4 * q + 3)
      rw [SW_x (by omega)]
      exact g 11 (by omega) (by omega)
theorem PyR.bw {β : PS} {n : Nat} {W : Nat → Int} (h : PyR β) (hW : ∀ i, i < n → -1 ≤ W i ∧ W i ≤ 7) : PyR (bW β n W) := by
  intro p hp'
  rw [bW_f 13 (by omega)] at hp'
  rw [bW_f 8 (by omega), bW_f 11 (by omega), bW_10]
  obtain ⟨a, b, c⟩ := h p hp'
  refine ⟨a, ?_, c⟩
  split
  · rename_i hn; exact hW p hn
  · exact b
