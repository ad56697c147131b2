-- ===== calls =====
def LKS (own : String) (idx : Nat) (N : MI) (n : Nat) : Prop := MOK N n ∧ Cond.methodLink own idx N.1 ∈ wA ∧ Cond.static N.1 ∈ wA
def LKV (own : String) (idx : Nat) (N : MI) (n : Nat) : Prop := MOK N n ∧ Cond.methodLink own idx N.1 ∈ wA ∧ Cond.instanceMethod N.1 ∈ wA ∧ Cond.selects N.1.cls N.1 N.1 ∈ wA
def LKI (own : String) (idx : Nat) (N : MI) (n : Nat) : Prop := MOK N n ∧ Cond.methodLink own idx N.1 ∈ wA ∧ Cond.instanceMethod N.1 ∈ wA ∧ N.1.name = "<init>" ∧ N.2.2.2 = none
def LKN (own : String) (idx : Nat) (N : MI) (n : Nat) : Prop := MOK N n ∧ (∃ host, (own, idx, N.1, host) ∈ nwL) ∧ Cond.instanceMethod N.1 ∈ wA ∧ N.1.name = "<init>" ∧ N.2.2.2 = none
section CALLS
variable {E : Ev} {d dc : Nat} {M N : MI} {pc pc' : Nat} {ls ls' : List (Option Value)} {st st0 : List Value} {h h1 : Hp} {Q : Option Value → Hp → Prop} {a n idx : Nat} {r : Option Value} {As : List Value}
theorem wM_good {args : Array Value} {s : State} (hN : MOK N n) (hts : ∀ w ∈ wA, w.before args s = true) : GoodIn wA (wM N) := by
  intro w hw
  rcases List.mem_cons.mp hw with rfl | hw
  · exact ⟨hN.1, wA_good hN.1⟩
  · exact ⟨hw, wA_good hw⟩
/-- behind a call -/
theorem call_go {p : Program} {e : Env} {R : Room} {s : State} {m : MethodId} {args : Array Value} {below : List Frame} {meth : Method} {c : Code} {H : Heap} {lsA : Array Slot} {locs : List Loc} {cells slots mc ms : Nat} {QW : State → Prop} {av : Array Value}
    (hr : va_Run p E.1 e R s m args below meth c H locs cells slots mc ms (F0 m pc lsA st0) st (QR E r h1 av) (Aa E)) (hS : va_S (Aa E) s.heap H locs)
    (kk : ∀ (H1 : Heap) (locs1 : List Loc), Pic E h1 H1 → va_S (Aa E) s.heap H1 locs1 → W p E.1 e R s m args below meth c H1 locs1 (cells + mc) (slots + ms) QW (F0 m (pc + 3) lsA (r.toList ++ st))) : W p E.1 e R s m args below meth c H locs cells slots QW (F0 m pc lsA st0) := by
  intro T hT X
  obtain ⟨v, st₀, t, T', L, h0, X', hL, e1, e2, ⟨hv, hp, hz, hk⟩, step⟩ := hr T hT X
  have hv : v = r := by injection hv
  subst hv
  rw [h0] at hz hk
  obtain ⟨t2, a1, b1⟩ := kk T'.heap (locs ++ L) (by rw [e1]; exact hp) ⟨Nat.le_trans hS.1 (by rw [e1]; exact hz), fun q h1 h2 => by rw [e1, hk q (Nat.lt_of_lt_of_le h1 hS.1) h2]; exact hS.2.1 q h1 h2, fun q hq => by
      rcases List.mem_append.mp hq with h | h
      · exact hS.2.2 q h
      · exact hL q h⟩ T' rfl X'
  exact ⟨t2, step t2 a1, b1⟩
theorem preS_of {s : State} {H : Heap} {args : Array Value} {locs : List Loc} (hP : Pic E h H) (hK : KK E s) (hro : E.2.2.2.2 s) (hRS : roS E) (hB : E.2.2.1 ≤ s.heap.size) (hS : va_S (Aa E) s.heap H locs) (hz : H.size = E.2.2.1 + h.1) : PreS s H (va_Pc As (fun U => U.heap.size = E.2.2.1 + h.1 ∧ Pic E h U.heap ∧ KK E U ∧ E.2.2.2.2 U)) As := by
  refine ⟨fun a U g mk q => ?_, fun U hU hW => ⟨rfl, by rw [hU]; exact hz, by rw [hU]; exact hP, hK.warm hW, hRS s U hro hW (fun q hq => ?_)⟩⟩
  · obtain ⟨q0, q1, q2, q3, q4⟩ := q
    exact ⟨q0, q1, q2, KK.warm (s := U) (U := U.calling g mk a) (State.WarmedH.refl U) q3, hRS U _ q4 (State.WarmedH.refl U) (fun _ _ => rfl)⟩
  · rw [hU]
    exact hS.2.1 q (by omega) (by unfold Aa; omega)
theorem T.callS (hd : decode M.2.1 pc = .ok (.invokestatic idx, 3)) (hk : LKS M.1.cls idx N n) (hct : CT E dc N As h r h1) (hdc : dc + 1 ≤ d) (hn : As.length = n) (hst : st0 = As.reverse ++ st) (hrm : (st.map fun v => v.category).sum ≤ 8) (kt : T E d M (pc + 3) ls (r.toList ++ st) h1 Q) : T E d M pc ls st0 h Q := by
  refine T.ph (h1 := h1) ⟨hct.1, hct.2.1, ?_⟩ kt
  intro p e R s m args below meth c hC hf hl H lsA locs cells slots QW hP hS hL hcl hsl hz kk
  obtain ⟨hx, hb, hml, hown, hts, hrt, hlk, hnm, hK, hro, hB, hRS⟩ := hC
  obtain ⟨hN, k1, k2⟩ := hk
  refine W.sz (fun hsz => ?_)
  have hz2 := hP.ge hB hS
  have hz1 : H.size = E.2.2.1 + h.1 := by omega
  have hmx := hN.2.2.2.2
  refine call_go (va_runS (As := As) (rest := st) (Ts := wA) ⟨hx, hb, hml, hown, hts⟩ (hct.2.2 hRS) ⟨callB_of (Ts := wA) n hts (wM_good hN hts) rfl rfl rfl (hts _ hN.2.1) (hts _ k1) hN.2.2.1 ⟨by show dc + 1 ≤ R.frames; omega, by show 8 + (N.2.2.1 + 11) + 100 * dc ≤ R.locals; omega⟩, hts _ k2⟩ (preS_of (args := args) hP hK hro hRS hB hS hz1) rfl hn hL.1 hst (lv_room hrm) hd ⟨hcl, hsl⟩) hS (fun H1 locs1 hP1 hS1 => kk H1 locs1 lsA hP1 hS1 hL)
theorem T.callI {b : Nat} (hd : decode M.2.1 pc = .ok (.invokespecial idx, 3)) (hk : LKI M.1.cls idx N n) (hct : CT E dc N (.ref b :: As) h none h1) (hdc : dc + 1 ≤ d) (hn : As.length = n) (hst : st0 = As.reverse ++ .ref b :: st) (hrm : (st.map fun v => v.category).sum ≤ 8) (kt : T E d M (pc + 3) ls st h1 Q) : T E d M pc ls st0 h Q := by
  refine T.ph (h1 := h1) ⟨hct.1, hct.2.1, ?_⟩ kt
  intro p e R s m args below meth c hC hf hl H lsA locs cells slots QW hP hS hL hcl hsl hz kk
  obtain ⟨hx, hb, hml, hown, hts, hrt, hlk, hnm, hK, hro, hB, hRS⟩ := hC
  obtain ⟨hN, k1, k2, k3, k4⟩ := hk
  refine W.sz (fun hsz => ?_)
  have hz2 := hP.ge hB hS
  have hz1 : H.size = E.2.2.1 + h.1 := by omega
  have hmx := hN.2.2.2.2
  have hw0 : wM N = Cond.code N.1 N.2.1 N.2.2.1 none :: wA := by unfold wM; rw [k4]
  refine call_go (r := none) (va_runI (As := As) (rest := st) (Ts := wA) ⟨hx, hb, hml, hown, hts⟩ (hct.2.2 hRS) ⟨callB_of (Ts := wA) n hts (wM_good hN hts) hw0 rfl rfl (hts _ hN.2.1) (hts _ k1) hN.2.2.1 ⟨by show dc + 1 ≤ R.frames; omega, by show 8 + (N.2.2.1 + 11) + 100 * dc ≤ R.locals; omega⟩, k3, hts _ k2⟩ (preS_of (args := args) hP hK hro hRS hB hS hz1) rfl hn hL.1 hst (lv_room hrm) hd ⟨hcl, hsl⟩) hS (fun H1 locs1 hP1 hS1 => kk H1 locs1 lsA hP1 hS1 hL)
theorem T.callN {b : Nat} (hd : decode M.2.1 pc = .ok (.invokespecial idx, 3)) (hk : LKN M.1.cls idx N n) (hct : CT E dc N (.ref b :: As) h none h1) (hdc : dc + 1 ≤ d) (hn : As.length = n) (hst : st0 = As.reverse ++ .ref b :: st) (hrm : (st.map fun v => v.category).sum ≤ 8) (kt : T E d M (pc + 3) ls st h1 Q) : T E d M pc ls st0 h Q := by
  refine T.ph (h1 := h1) ⟨hct.1, hct.2.1, ?_⟩ kt
  intro p e R s m args below meth c hC hf hl H lsA locs cells slots QW hP hS hL hcl hsl hz kk
  obtain ⟨hx, hb, hml, hown, hts, hrt, hlk, hnm, hK, hro, hB, hRS⟩ := hC
  obtain ⟨hN, ⟨host, k1⟩, k2, k3, k4⟩ := hk
  refine W.sz (fun hsz => ?_)
  have hz2 := hP.ge hB hS
  have hz1 : H.size = E.2.2.1 + h.1 := by omega
  have hmx := hN.2.2.2.2
  have hw0 : wM N = Cond.code N.1 N.2.1 N.2.2.1 none :: wA := by unfold wM; rw [k4]
  refine call_go (r := none) (va_runIN (As := As) (rest := st) (Ts := wA) ⟨hx, hb, hml, hown, hts⟩ (hct.2.2 hRS) ⟨va_cnB (Ts := wA) n hts (wM_good hN hts) hw0 rfl rfl (hK.2.1 _ k1) (hts _ hN.2.1) hN.2.2.1 ⟨by show dc + 1 ≤ R.frames; omega, by show 8 + (N.2.2.1 + 11) + 100 * dc ≤ R.locals; omega⟩, k3, hts _ k2⟩ (preS_of (args := args) hP hK hro hRS hB hS hz1) rfl hn hL.1 hst (lv_room hrm) hd ⟨hcl, hsl⟩) hS (fun H1 locs1 hP1 hS1 => kk H1 locs1 lsA hP1 hS1 hL)
theorem T.callV {b ci k0 : Nat} {T0 : u_T} {fs : List Value} (hd : decode M.2.1 pc = .ok (.invokevirtual idx, 3)) (hk : LKV M.1.cls idx N n) (hct : CT E dc N (.ref b :: As) h r h1) (hb0 : inH E h b) (hbe : h.2.2 b = .inr (ci, fs)) (hci : vwCl[ci]? = some (N.1.cls, T0, k0)) (hdc : dc + 1 ≤ d) (hn : As.length = n) (hst : st0 = As.reverse ++ .ref b :: st) (hrm : (st.map fun v => v.category).sum ≤ 8) (kt : T E d M (pc + 3) ls (r.toList ++ st) h1 Q) : T E d M pc ls st0 h Q := by
  refine T.ph (h1 := h1) ⟨hct.1, hct.2.1, ?_⟩ kt
  intro p e R s m args below meth c hC hf hl H lsA locs cells slots QW hP hS hL hcl hsl hz kk
  obtain ⟨hx, hb, hml, hown, hts, hrt, hlk, hnm, hK, hro, hB, hRS⟩ := hC
  obtain ⟨hN, k1, k2, k3⟩ := hk
  refine W.sz (fun hsz => ?_)
  have hz2 := hP.ge hB hS
  have hz1 : H.size = E.2.2.1 + h.1 := by omega
  have hmx := hN.2.2.2.2
  obtain ⟨q0, hq⟩ := Pic.at (H := H) hb0 hbe
  have hp := preS_of (As := .ref b :: As) (args := args) hP hK hro hRS hB hS hz1
  refine call_go (va_runV (As := As) (rest := st) (Ts := wA) (C := N.1.cls) ⟨hx, hb, hml, hown, hts⟩ (hct.2.2 hRS) ⟨callB_of (Ts := wA) n hts (wM_good hN hts) rfl rfl rfl (hts _ hN.2.1) (hts _ k1) hN.2.2.1 ⟨by show dc + 1 ≤ R.frames; omega, by show 8 + (N.2.2.1 + 11) + 100 * dc ≤ R.locals; omega⟩, hts _ k2, hts _ k3⟩ ⟨hp.1, va_recv hK.1 hP hci hq, hp.2⟩ rfl hn hL.1 hst (lv_room hrm) hd ⟨hcl, hsl⟩) hS (fun H1 locs1 hP1 hS1 => kk H1 locs1 lsA hP1 hS1 hL)
theorem T.objI {b : Nat} (hd : decode M.2.1 pc = .ok (.invokespecial idx, 3)) (k1 : Cond.methodLink M.1.cls idx Lib.objectInit ∈ wA) (k2 : Cond.instanceMethod Lib.objectInit ∈ wA) (k3 : Cond.code Lib.objectInit ⟨#[0xb1]⟩ 1 none ∈ wA) (hdc : 1 ≤ d) (hrm : (st.map fun v => v.category).sum ≤ 8) (kt : T E d M (pc + 3) ls st h Q) : T E d M pc ls (.ref b :: st) h Q := by
  refine T.pl ?_ kt
  intro p e R s m args below meth c hC hf hl H lsA locs cells slots Q hP hS hL hcl hsl hz kk
  obtain ⟨hx, hb, hml, hown, hts, hrt, hlk, hnm, hK, hro, hB, hRS⟩ := hC
  have hr8 := lv_room (m := m) (pc := pc) (ls := lsA) (rest := .ref b :: st) hrm
  exact W.objInit hx hb hown (hts _ k1) (hts _ k2) (hts _ k3) (g := F0 m pc lsA (.ref b :: st)) rfl (hL.1.trans hml.symm) rfl hd (by omega) (by omega) (kk _ hL)
/-- a contract in the judgement's words -/
def TC (E : Ev) (d : Nat) (N : MI) (as : List Value) (h : Hp) (Q : Option Value → Hp → Prop) : Prop := ∃ r h', CT E d N as h r h' ∧ Q r h'
theorem TC.of {as : List Value} (hM : MOK N n) (hn : (lg_sl as).length ≤ N.2.2.1) (j : T E d N 0 (en N.2.2.1 as) [] h Q) : TC E d N as h Q := by
  obtain ⟨r, h', j, q⟩ := j
  exact ⟨r, h', CT.of hM hn j, q⟩
theorem TC.ct {as : List Value} (j : TC E d N as h (fun r' h' => r' = r ∧ h' = h1)) : CT E d N as h r h1 := by
  obtain ⟨r', h', j, rfl, rfl⟩ := j
  exact j
end CALLS
