def R_law : String := "PaidDebtsLaw"
def lw_P (b : Addr) (xs : List Int32) (args : Array Value) (s : State) : Prop := args = #[.ref b] ∧ s.IntsAt b xs ∧ xs.length ≤ 3584 ∧ (Jvm.Cond.and given_1 narrow_1).before args s = true
def lw_Q (_ : Array Value) (s : State) (o : Outcome) (t : State) : Prop := o = .returned (some (.int 1)) ∧ Framed s o t [] 600000 7302250
def lw_Z (below : List Frame) (a : Array Value) (s : State) : State → Prop := fun t => ∃ o, t.status = .running ∧ Ended t below o ∧ lw_Q a s o t
/-- the law's own end, with 1 on the stack, nothing written that was there before, its room as the claim has it -/
theorem lw_ret {p : Program} {l : Launch} {e : Env} {s : State} {m : MethodId} {below : List Frame} {meth : Method} {c : Code} {b : Nat} (hx : p.tables.exec = Jvm.exec) (hb : c.code = code) (hr : meth.sig.returnType = ret) (hlocks : meth.locks = false) {pc : Nat} {H : Heap} {ls : Array Slot} (hdg : decode code pc = .ok (.ireturn, 1)) : W p l e room_1 s m #[Value.ref b] below meth c H [] 600000 7302250 (lw_Z below #[Value.ref b] s) (F0 m pc ls [.int 1]) := by
  intro T hT X
  obtain ⟨fs, hret, hrun, hended, hW, hframe⟩ := X.leave (v := some (.int 1)) (hlocks := hlocks) (fun h => by rw [hr] at h; cases h)
  have hmeth' : T.vm.method? m = some meth := X.method'
  refine ⟨T.setFrames fs, ?_, .returned (some (.int 1)), hrun, hended, rfl, ⟨_, rfl⟩, hW, hframe⟩
  jvm_step X.here [X.here.top, hx, hb, hdg, hmeth', hr, ret, narrow_b1]
  (try refine ⟨rfl, ?_⟩); (try refine ⟨rfl, ?_⟩)
  first | (intro acts; rw [hret _ acts rfl rfl rfl]) | rw [hret _ _ rfl rfl rfl]
  exact Steps.refl _
/-- what holds at the law's entry: the machine, the code, the tables' words (any of lw_tbl by 'hts w (by decide +kernel)'), the script of L ints xs at the cell b, what the Statement gives of the start (any of its parts by flat_of_before) -/
def lw_At (p : Program) (s : State) (m : MethodId) (meth : Method) (c : Code) (b L : Nat) (xs : Nat → Int32) : Prop :=
  p.tables.exec = Jvm.exec ∧ c.code = code ∧ meth.sig.returnType = ret ∧ c.maxLocals = 4 ∧ s.vm.findClass R_law = some m.cls ∧ (∀ w ∈ lw_tbl, w.before #[Value.ref b] s = true) ∧ va_X b L xs s s.heap ∧ b < s.heap.size ∧ meth.locks = false ∧ (Jvm.Cond.and given_1 narrow_1).before #[Value.ref b] s = true ∧ meth.name = yL_law.name

theorem nwL_t : ∀ q ∈ nwL, Cond.methodLinkNest q.1 q.2.1 q.2.2.1 q.2.2.2 ∈ lw_tbl := by decide +kernel
theorem aoL_t : ∀ C ∈ aoL, Cond.arrayOver (.object C) ∈ lw_tbl := by decide +kernel
theorem inst0 : Cond.instantiable RX0 5 ∈ lw_tbl := by decide +kernel
theorem inst1 : Cond.instantiable RX1 14 ∈ lw_tbl := by decide +kernel
theorem inst2 : Cond.instantiable RX2 3 ∈ lw_tbl := by decide +kernel
theorem inst3 : Cond.instantiable RX3 3 ∈ lw_tbl := by decide +kernel
theorem inst4 : Cond.instantiable RX4 4 ∈ lw_tbl := by decide +kernel
theorem inst5 : Cond.instantiable RX5 4 ∈ lw_tbl := by decide +kernel
theorem inst6 : Cond.instantiable RX6 2 ∈ lw_tbl := by decide +kernel
theorem inst7 : Cond.instantiable RX7 7 ∈ lw_tbl := by decide +kernel
theorem inst8 : Cond.instantiable RX8 8 ∈ lw_tbl := by decide +kernel
theorem inst9 : Cond.instantiable RX9 29 ∈ lw_tbl := by decide +kernel
theorem ac_tbl : ∀ t ∈ [FieldType.int, .long, .boolean], Cond.arrayClass t ∈ lw_tbl := by decide +kernel
theorem arr_of {args : Array Value} {s : State} {ty : FieldType} (h : (Cond.arrayClass ty).before args s = true) : ∃ cA : ClassId, ArrOfT s cA ty ∧ s.vm.findClass ("[" ++ ty.toString) = some cA := by
  obtain ⟨cA, kA, comp, h1, h2, h3⟩ := Cond.arrayClass_spec h
  exact ⟨cA, fun n z => ⟨fun k h => (by cases h), kA, h2, comp, h3⟩, h1⟩
theorem arr_ofO {args : Array Value} {s : State} {C : String} (h : (Cond.arrayOver (.object C)).before args s = true) : ∃ cA : ClassId, ArrOfT s cA (.object C) ∧ va_RA s cA (.object C) := by
  obtain ⟨comp, cA, kA, h1, h2, h3, h4, h5⟩ := Cond.arrayOver_spec h
  exact ⟨cA, fun n z => ⟨fun k h => (by cases h), kA, h3, comp, h4⟩, kA, comp, h3, h4, h1, h5⟩
theorem lay_in : ∀ c ∈ [Cond.laysStatic "PaidDebts" "LEAST_TRAIT" "[I", Cond.laysStatic "PaidDebts" "MOST_TRAIT" "[I", Cond.laysStatic "java/lang/String" "COMPACT_STRINGS" "Z", Cond.initialized "PaidDebts", Cond.initialized "java/lang/String", Cond.stringRef "PaidDebts$Tape" 19 "ctsxpdhuol"], c ∈ lw_tbl := by decide +kernel
theorem ro_of {b : Nat} {s : State} (hts : ∀ w ∈ lw_tbl, w.before #[Value.ref b] s = true) (hgv : (Jvm.Cond.and given_1 narrow_1).before #[Value.ref b] s = true) : ∃ ad : AD, RO s.heap.size ad s := by
  have hs := flat_of_before _ hgv
  have hA : ∀ a : Nat, a < s.heap.size → ¬ (fun q : Nat => s.heap.size ≤ q) a := fun a h => Nat.not_le.mpr h
  obtain ⟨a1, e1, t1⟩ := va_Tof (tm := (Term.static "PaidDebts" "LEAST_TRAIT" "[I")) (ty := .int) (N := 6) (f := fun j => .int (iI (leT j))) (A := fun q : Nat => s.heap.size ≤ q) (by decide) (hs _ (by decide +kernel)) (va_eqt (hs (.eq (.length (Term.static "PaidDebts" "LEAST_TRAIT" "[I")) (.int 6)) (by decide +kernel))) (fun j hj => by
    rcases (show j = 0 ∨ j = 1 ∨ j = 2 ∨ j = 3 ∨ j = 4 ∨ j = 5 by omega) with rfl | rfl | rfl | rfl | rfl | rfl
    · exact va_eqt (hs (.eq (.elem (Term.static "PaidDebts" "LEAST_TRAIT" "[I") (.int 0)) (.int 0)) (by decide +kernel))
    · exact va_eqt (hs (.eq (.elem (Term.static "PaidDebts" "LEAST_TRAIT" "[I") (.int 1)) (.int (-1))) (by decide +kernel))
    · exact va_eqt (hs (.eq (.elem (Term.static "PaidDebts" "LEAST_TRAIT" "[I") (.int 2)) (.int 0)) (by decide +kernel))
    · exact va_eqt (hs (.eq (.elem (Term.static "PaidDebts" "LEAST_TRAIT" "[I") (.int 3)) (.int 0)) (by decide +kernel))
    · exact va_eqt (hs (.eq (.elem (Term.static "PaidDebts" "LEAST_TRAIT" "[I") (.int 4)) (.int 0)) (by decide +kernel))
    · exact va_eqt (hs (.eq (.elem (Term.static "PaidDebts" "LEAST_TRAIT" "[I") (.int 5)) (.int 0)) (by decide +kernel))) hA
  obtain ⟨a2, e2, t2⟩ := va_Tof (tm := (Term.static "PaidDebts" "MOST_TRAIT" "[I")) (ty := .int) (N := 6) (f := fun j => .int (iI (moT j))) (A := fun q : Nat => s.heap.size ≤ q) (by decide) (hs _ (by decide +kernel)) (va_eqt (hs (.eq (.length (Term.static "PaidDebts" "MOST_TRAIT" "[I")) (.int 6)) (by decide +kernel))) (fun j hj => by
    rcases (show j = 0 ∨ j = 1 ∨ j = 2 ∨ j = 3 ∨ j = 4 ∨ j = 5 by omega) with rfl | rfl | rfl | rfl | rfl | rfl
    · exact va_eqt (hs (.eq (.elem (Term.static "PaidDebts" "MOST_TRAIT" "[I") (.int 0)) (.int 1)) (by decide +kernel))
    · exact va_eqt (hs (.eq (.elem (Term.static "PaidDebts" "MOST_TRAIT" "[I") (.int 1)) (.int 5)) (by decide +kernel))
    · exact va_eqt (hs (.eq (.elem (Term.static "PaidDebts" "MOST_TRAIT" "[I") (.int 2)) (.int 1)) (by decide +kernel))
    · exact va_eqt (hs (.eq (.elem (Term.static "PaidDebts" "MOST_TRAIT" "[I") (.int 3)) (.int 299)) (by decide +kernel))
    · exact va_eqt (hs (.eq (.elem (Term.static "PaidDebts" "MOST_TRAIT" "[I") (.int 4)) (.int 99)) (by decide +kernel))
    · exact va_eqt (hs (.eq (.elem (Term.static "PaidDebts" "MOST_TRAIT" "[I") (.int 5)) (.int 299)) (by decide +kernel))) hA
  obtain ⟨adK, adV, hK, hE⟩ := vk_Sof (N := 1) (tm := fun _ => (Term.string "PaidDebts$Tape" 19)) (len := [10]) (byt := [[99, 116, 115, 120, 112, 100, 104, 117, 111, 108]]) (A := fun q : Nat => s.heap.size ≤ q) (args := #[Value.ref b]) (s := s) (by decide) (fun i hi => hs _ (by decide +kernel)) (fun i hi => hs _ (by decide +kernel)) (fun i hi => hs _ (by decide +kernel)) (fun i hi => by
      obtain rfl : i = 0 := by omega
      exact hs _ (by decide +kernel)) (fun i hi j hj => by
      obtain rfl : i = 0 := by omega
      have hj' : j < 10 := hj
      rcases (show j = 0 ∨ j = 1 ∨ j = 2 ∨ j = 3 ∨ j = 4 ∨ j = 5 ∨ j = 6 ∨ j = 7 ∨ j = 8 ∨ j = 9 by omega) with rfl | rfl | rfl | rfl | rfl | rfl | rfl | rfl | rfl | rfl <;> exact hs _ (by decide +kernel)) (fun i j hi hj h => by omega) hA
  obtain ⟨k1, k2, k3, k4⟩ := hK.1 0 (by decide)
  refine ⟨(a1, a2, adK 0, adV 0), va_Zof (hts _ (lay_in _ (by decide +kernel))) (hts _ (lay_in _ (by decide +kernel))) e1 hA, t1, va_Zof (hts _ (lay_in _ (by decide +kernel))) (hts _ (lay_in _ (by decide +kernel))) e2 hA, t2, va_Zof (hts _ (lay_in _ (by decide +kernel))) (hts _ (lay_in _ (by decide +kernel))) (va_eqi (hs _ (by decide +kernel))) hA, vk_R.of (hts _ (lay_in _ (by decide +kernel))) (hE 0 (by decide)), k1, k2, k3, ?_⟩
  obtain ⟨cell, q1, q2, q3, q4, q5, q6, q7⟩ := k4
  refine ⟨cell, q1, q2, q3, q4, q5, fun j hj => ?_, q7⟩
  rw [q6 j hj]
  rcases (show j = 0 ∨ j = 1 ∨ j = 2 ∨ j = 3 ∨ j = 4 ∨ j = 5 ∨ j = 6 ∨ j = 7 ∨ j = 8 ∨ j = 9 by omega) with rfl | rfl | rfl | rfl | rfl | rfl | rfl | rfl | rfl | rfl <;> rfl
theorem kk_of {args : Array Value} {s : State} (hts : ∀ w ∈ lw_tbl, w.before args s = true) : ∃ (D : va_G) (cy : Nat → ClassId), va_K D vwCl (tyL cy) s ∧ (∀ q ∈ nwL, va_Nw (.methodLinkNest q.1 q.2.1 q.2.2.1 q.2.2.2) s) ∧ ∀ C ∈ aoL, va_AO C s := by
  obtain ⟨c0, i0, hk0⟩ := u_known (C := RX0) (T := TX0) (N := 5) (n := 5) hts inX0 (hts _ inst0)
  obtain ⟨c1, i1, hk1⟩ := u_known (C := RX1) (T := TX1) (N := 14) (n := 14) hts inX1 (hts _ inst1)
  obtain ⟨c2, i2, hk2⟩ := u_known (C := RX2) (T := TX2) (N := 3) (n := 3) hts inX2 (hts _ inst2)
  obtain ⟨c3, i3, hk3⟩ := u_known (C := RX3) (T := TX3) (N := 3) (n := 3) hts inX3 (hts _ inst3)
  obtain ⟨c4, i4, hk4⟩ := u_known (C := RX4) (T := TX4) (N := 4) (n := 4) hts inX4 (hts _ inst4)
  obtain ⟨c5, i5, hk5⟩ := u_known (C := RX5) (T := TX5) (N := 4) (n := 4) hts inX5 (hts _ inst5)
  obtain ⟨c6, i6, hk6⟩ := u_known (C := RX6) (T := TX6) (N := 2) (n := 2) hts inX6 (hts _ inst6)
  obtain ⟨c7, i7, hk7⟩ := u_known (C := RX7) (T := TX7) (N := 7) (n := 7) hts inX7 (hts _ inst7)
  obtain ⟨c8, i8, hk8⟩ := u_known (C := RX8) (T := TX8) (N := 8) (n := 8) hts inX8 (hts _ inst8)
  obtain ⟨c9, i9, hk9⟩ := u_known (C := RX9) (T := TX9) (N := 29) (n := 29) hts inX9 (hts _ inst9)
  obtain ⟨dC, dI, hKc⟩ : ∃ (dC : Nat → ClassId) (dI : Nat → Nat → Nat), ∀ (k : Nat) (q : vw_C), vwCl[k]? = some q → u_Kn s q.1 q.2.1 q.2.2 (dC k) (dI k) := by
    refine ⟨fun k => if k = 0 then c0 else if k = 1 then c1 else if k = 2 then c2 else if k = 3 then c3 else if k = 4 then c4 else if k = 5 then c5 else if k = 6 then c6 else if k = 7 then c7 else if k = 8 then c8 else c9, fun k => if k = 0 then i0 else if k = 1 then i1 else if k = 2 then i2 else if k = 3 then i3 else if k = 4 then i4 else if k = 5 then i5 else if k = 6 then i6 else if k = 7 then i7 else if k = 8 then i8 else i9, ?_⟩
    intro k q hq
    match k, hq with
    | 0, hq => cases hq; exact hk0
    | 1, hq => cases hq; exact hk1
    | 2, hq => cases hq; exact hk2
    | 3, hq => cases hq; exact hk3
    | 4, hq => cases hq; exact hk4
    | 5, hq => cases hq; exact hk5
    | 6, hq => cases hq; exact hk6
    | 7, hq => cases hq; exact hk7
    | 8, hq => cases hq; exact hk8
    | 9, hq => cases hq; exact hk9
    | k + 10, hq => simp [vwCl] at hq
  obtain ⟨y0, a0, b0⟩ := arr_of (hts _ (ac_tbl .int (by decide)))
  obtain ⟨y1, a1, b1⟩ := arr_of (hts _ (ac_tbl .long (by decide)))
  obtain ⟨y2, a2, b2⟩ := arr_of (hts _ (ac_tbl .boolean (by decide)))
  obtain ⟨y3, a3, b3⟩ := arr_ofO (hts _ (aoL_t RX1 (by decide)))
  obtain ⟨y4, a4, b4⟩ := arr_ofO (hts _ (aoL_t RX2 (by decide)))
  obtain ⟨y5, a5, b5⟩ := arr_ofO (hts _ (aoL_t RX3 (by decide)))
  obtain ⟨y6, a6, b6⟩ := arr_ofO (hts _ (aoL_t RX4 (by decide)))
  obtain ⟨y7, a7, b7⟩ := arr_ofO (hts _ (aoL_t RX5 (by decide)))
  refine ⟨(dC, dI), fun k => if k = 0 then y0 else if k = 1 then y1 else if k = 2 then y2 else if k = 3 then y3 else if k = 4 then y4 else if k = 5 then y5 else if k = 6 then y6 else y7, ⟨hKc, ?_⟩, fun q hq => va_Nw.of rfl (hts _ (nwL_t q hq)), fun C hC => va_AO.of (hts _ (aoL_t C hC))⟩
  intro k q hq
  match k, hq with
  | 0, hq => cases hq; exact ⟨a0, b0⟩
  | 1, hq => cases hq; exact ⟨a1, b1⟩
  | 2, hq => cases hq; exact ⟨a2, b2⟩
  | 3, hq => cases hq; exact ⟨a3, b3⟩
  | 4, hq => cases hq; exact ⟨a4, b4⟩
  | 5, hq => cases hq; exact ⟨a5, b5⟩
  | 6, hq => cases hq; exact ⟨a6, b6⟩
  | 7, hq => cases hq; exact ⟨a7, b7⟩
  | k + 8, hq => simp [tyL] at hq
theorem hmL_f (c : Int) : ∀ n, hmL (fun _ => (0 : Int)) c n = true → 0 = c
  | 0, h => by simp [hmL] at h
  | n + 1, h => by
    unfold hmL at h
    rw [Bool.or_eq_true] at h
    rcases h with h | h
    · exact hmL_f c n h
    · simpa using h
theorem pz_good : Good pz := by
  refine ⟨pz_inv, ⟨rfl, rfl, fun d hd => ?_, fun p hp => ?_, fun d hd => ?_, fun p hp => ?_⟩, fun l hl => ⟨rfl, fun k hk => ?_, fun c h1 h2 => ?_⟩, rfl, fun i hi => ?_, fun s hs => ⟨?_, rfl, fun i hi => rfl⟩, rfl, fun h => absurd rfl h, fun x _ => ⟨Int.le_refl 0, show (0 : Int) ≤ 127 by omega⟩⟩
  · have : (d : Int) < 0 := hd
    omega
  · have : (p : Int) < 0 := hp
    omega
  · have : (d : Int) < 0 := hd
    omega
  · have : (p : Int) < 0 := hp
    omega
  · have : (k : Int) < 0 := hk
    omega
  · constructor
    · intro h
      have h3 : (0 : Int) / 2 ^ (c - 97) % 2 = 1 := h
      rw [Int.zero_ediv] at h3
      omega
    · intro h
      have h4 : hmL (fun _ => (0 : Int)) c 0 = true := h
      simp [hmL] at h4
  · have : (i : Int) < 0 := hi
    omega
  · show (if s < 4 then (-1 : Int) else 0) = (if (0 : Int) = 0 then -1 else 0)
    rw [if_pos hs, if_pos rfl]
set_option maxHeartbeats 4000000 in
theorem law_go (hSs : Sims) (E : Ev) (ad : AD) (hR : ∀ s, E.2.2.2.2 s → RO E.2.2.1 ad s) (sb L : Nat) (xs : Nat → Int32) (hX : ∀ s, E.2.2.2.2 s → SX E sb L xs s) (hL : L ≤ 3584) : T E 20 mL_law 0 [some (.ref sb), none, none, none] [] (0, 0, lay E pz) (fun r h' => r = some (.int (iI 1)) ∧ h'.1 = 400 ∧ h'.2.1 = 5110) := by
  refine T.mkI (dc := 5) dL_law_0 dL_law_3 dL_law_4 no_L_7 lk_L_9 (i_Pd E _ 0 _ lz_pd) (by decide) (Nat.le_of_ble_eq_true rfl) ?_
  refine T.astore_n (ls' := [some (.ref sb), some (rf E 0 0 0), none, none]) dL_law_7 rfl ?_
  refine T.mkI (dc := 1) dL_law_8 dL_law_11 dL_law_12 no_L_10 lk_L_12 (i_Md E _ 376 _ lz_md) (by decide) (Nat.le_of_ble_eq_true rfl) ?_
  refine T.astore_n (ls' := [some (.ref sb), some (rf E 0 0 0), some (rf E 29 0 0), none]) dL_law_15 rfl ?_
  refine T.iconst dL_law_16 ?_
  refine T.istore_n (ls' := [some (.ref sb), some (rf E 0 0 0), some (rf E 29 0 0), some (.int (iI ((0 : Nat) : Int)))]) dL_law_17 rfl ?_
  exact L_loop E ad hR sb L xs hX hL 300 rfl hSs _ 0 pz rfl (by omega) pz_good
theorem whole_start (hSs : Sims) {p : Program} {e : Env} {s : State} {m : MethodId} {below : List Frame} {meth : Method} {c : Code} (l : Launch) {b L : Nat} {xs : Nat → Int32} (hL : L ≤ 3584) (C0 : lw_At p s m meth c b L xs) : W p l e room_1 s m #[Value.ref b] below meth c s.heap [] 0 0 (lw_Z below #[Value.ref b] s) (entryFrame m ([Value.ref b] : List Value).toArray 4) := by
  obtain ⟨hx, hb, hr, hml, hown, hts, hX, hbl, hlocks, hgv, hnm⟩ := C0
  obtain ⟨ad, hro⟩ := ro_of hts hgv
  obtain ⟨D, cy, hKK⟩ := kk_of hts
  obtain ⟨E, hE⟩ : ∃ E : Ev, E = (l, D, s.heap.size, cy, fun s' => RO s.heap.size ad s' ∧ va_X b L xs s' s'.heap ∧ b < s'.heap.size ∧ b < s.heap.size) := ⟨_, rfl⟩
  have hR : ∀ s, E.2.2.2.2 s → RO E.2.2.1 ad s := by rw [hE]; exact fun s h => h.1
  have hX2 : ∀ s, E.2.2.2.2 s → SX E b L xs s := by rw [hE]; exact fun s h => h.2
  have hRS : roS E := by
    rw [hE]
    intro u U h hW hH
    obtain ⟨h1, h2, h3, h4⟩ := h
    have hbU : U.heap[b]? = u.heap[b]? := hH b h4
    refine ⟨h1.stays hW hH, (h2.moved hW.alike).kept hbU, ?_, h4⟩
    obtain ⟨scr, g1, -⟩ := h2
    rw [← hbU] at g1
    exact (Array.getElem?_eq_some_iff.mp g1).1
  obtain ⟨r, h', j, hr1, hc1, hs1⟩ := law_go hSs E ad hR b L xs hX2 hL
  have e1 : E.1 = l := by rw [hE]
  have e3 : E.2.2.1 = s.heap.size := by rw [hE]
  have hC : Cx E mL_law p s m #[Value.ref b] meth c := ⟨hx, hb, hml, hown, fun w hw => hts w (List.mem_filter.mp hw).1, hr, hlocks, hnm, by rw [hE]; exact hKK, by rw [hE]; exact ⟨hro, hX, hbl, hbl⟩, by rw [e3]; exact Nat.le_refl _, hRS⟩
  have hl := lv_entry ([.ref b]) (n := 4) (Nat.le_of_ble_eq_true rfl)
  rw [lg_entry_eq]
  have hLl : lvO (lg_sl ([Value.ref b]) ++ List.replicate (4 - (lg_sl ([Value.ref b])).length) Slot.unset).toArray 4 (en 4 [Value.ref b]) := by
    unfold lvO; rw [lvL_en]; exact hl
  have k := j.2.2 p e room_1 s m #[Value.ref b] below meth c hC (by decide) (by decide) s.heap _ [] 0 0 (fun k q hk => by simp [va_pl, adl] at hk) va_S.rf hLl (by rw [hc1]; show 0 + (400 - 0) ≤ 600000; decide) (by rw [hs1]; show 0 + (5110 - 0) ≤ 7302250; decide) (by rw [e3])
  rw [e1] at k
  intro T0 hT0 X0
  obtain ⟨t, st, o, t1, t2, ⟨t3, -, -⟩, Lc, t4, t5⟩ := k T0 hT0 X0
  subst t3
  rw [hr1] at t2 t4
  refine ⟨t, st, .returned (some (.int 1)), t1, t2, rfl, t4.1, t4.2.1, ?_⟩
  refine State.sameButNew.weaken t4.2.2 (fun x hx hlt => ?_) (by rw [hc1]; show 0 + (400 - 0) ≤ 600000; decide) (by rw [hs1]; show 0 + (5110 - 0) ≤ 7302250; decide)
  have h9 : E.2.2.1 ≤ x.base := t5 x hx
  rw [e3] at h9
  exact absurd hlt (Nat.not_lt.mpr h9)
