-- ===== PART A: goes FIRST, ahead of the names: the tables' words, and 'selects' of the private methods out of them =====
/-- a private method of a class that the tables say can be made, by its rows of tables_1 -/
def lw_okq (q : MethodName × Nat) : Prop := (q.1.cls ≠ "java/lang/invoke/MethodHandle" ∧ q.1.cls ≠ "java/lang/invoke/VarHandle") ∧ Cond.instantiable q.1.cls q.2 ∈ tables_1 ∧ Cond.privateMethod q.1 ∈ tables_1 ∧ Cond.instanceMethod q.1 ∈ tables_1
theorem lw_p0 : lw_okq (⟨"PaidDebts", "isDebt", "(I)Z"⟩, 8) := ⟨⟨by decide +kernel, by decide +kernel⟩, List.mem_of_getElem? (i := 22) (by decide +kernel), List.mem_of_getElem? (i := 320) (by decide +kernel), List.mem_of_getElem? (i := 321) (by decide +kernel)⟩
theorem lw_p1 : lw_okq (⟨"PaidDebts", "isPayment", "(I)Z"⟩, 8) := ⟨⟨by decide +kernel, by decide +kernel⟩, List.mem_of_getElem? (i := 22) (by decide +kernel), List.mem_of_getElem? (i := 357) (by decide +kernel), List.mem_of_getElem? (i := 358) (by decide +kernel)⟩
theorem lw_p2 : lw_okq (⟨"PaidDebts", "isDebtOrNone", "(I)Z"⟩, 8) := ⟨⟨by decide +kernel, by decide +kernel⟩, List.mem_of_getElem? (i := 22) (by decide +kernel), List.mem_of_getElem? (i := 361) (by decide +kernel), List.mem_of_getElem? (i := 362) (by decide +kernel)⟩
theorem lw_p3 : lw_okq (⟨"PaidDebts", "goBehind", "(II)V"⟩, 8) := ⟨⟨by decide +kernel, by decide +kernel⟩, List.mem_of_getElem? (i := 22) (by decide +kernel), List.mem_of_getElem? (i := 507) (by decide +kernel), List.mem_of_getElem? (i := 508) (by decide +kernel)⟩
theorem lw_p4 : lw_okq (⟨"PaidDebts$Course", "runOn", "(II)V"⟩, 14) := ⟨⟨by decide +kernel, by decide +kernel⟩, List.mem_of_getElem? (i := 141) (by decide +kernel), List.mem_of_getElem? (i := 554) (by decide +kernel), List.mem_of_getElem? (i := 555) (by decide +kernel)⟩
theorem lw_p5 : lw_okq (⟨"PaidDebts$Course", "chosenDebt", "(LPaidDebts$Payment;)I"⟩, 14) := ⟨⟨by decide +kernel, by decide +kernel⟩, List.mem_of_getElem? (i := 141) (by decide +kernel), List.mem_of_getElem? (i := 558) (by decide +kernel), List.mem_of_getElem? (i := 559) (by decide +kernel)⟩
theorem lw_p6 : lw_okq (⟨"PaidDebts$Course", "give", "(IJ)J"⟩, 14) := ⟨⟨by decide +kernel, by decide +kernel⟩, List.mem_of_getElem? (i := 141) (by decide +kernel), List.mem_of_getElem? (i := 581) (by decide +kernel), List.mem_of_getElem? (i := 582) (by decide +kernel)⟩
theorem lw_p7 : lw_okq (⟨"PaidDebts$Course", "compareByKeys", "(II)I"⟩, 14) := ⟨⟨by decide +kernel, by decide +kernel⟩, List.mem_of_getElem? (i := 141) (by decide +kernel), List.mem_of_getElem? (i := 592) (by decide +kernel), List.mem_of_getElem? (i := 593) (by decide +kernel)⟩
theorem lw_p8 : lw_okq (⟨"PaidDebts$Course", "share", "(IIJ)J"⟩, 14) := ⟨⟨by decide +kernel, by decide +kernel⟩, List.mem_of_getElem? (i := 141) (by decide +kernel), List.mem_of_getElem? (i := 609) (by decide +kernel), List.mem_of_getElem? (i := 610) (by decide +kernel)⟩
theorem lw_p9 : lw_okq (⟨"PaidDebts$WordSearch", "tryFrom", "(I)V"⟩, 7) := ⟨⟨by decide +kernel, by decide +kernel⟩, List.mem_of_getElem? (i := 205) (by decide +kernel), List.mem_of_getElem? (i := 687) (by decide +kernel), List.mem_of_getElem? (i := 688) (by decide +kernel)⟩
theorem lw_p10 : lw_okq (⟨"PaidDebts$WordSearch", "weigh", "(J)V"⟩, 7) := ⟨⟨by decide +kernel, by decide +kernel⟩, List.mem_of_getElem? (i := 205) (by decide +kernel), List.mem_of_getElem? (i := 695) (by decide +kernel), List.mem_of_getElem? (i := 696) (by decide +kernel)⟩
theorem lw_p11 : lw_okq (⟨"PaidDebts$WordSearch", "isTriedAhead", "()Z"⟩, 7) := ⟨⟨by decide +kernel, by decide +kernel⟩, List.mem_of_getElem? (i := 205) (by decide +kernel), List.mem_of_getElem? (i := 699) (by decide +kernel), List.mem_of_getElem? (i := 700) (by decide +kernel)⟩
theorem lw_p12 : lw_okq (⟨"PaidDebtsModel", "isDebt", "(I)Z"⟩, 29) := ⟨⟨by decide +kernel, by decide +kernel⟩, List.mem_of_getElem? (i := 785) (by decide +kernel), List.mem_of_getElem? (i := 896) (by decide +kernel), List.mem_of_getElem? (i := 897) (by decide +kernel)⟩
theorem lw_p13 : lw_okq (⟨"PaidDebtsModel", "addPayment", "(II)V"⟩, 29) := ⟨⟨by decide +kernel, by decide +kernel⟩, List.mem_of_getElem? (i := 785) (by decide +kernel), List.mem_of_getElem? (i := 906) (by decide +kernel), List.mem_of_getElem? (i := 907) (by decide +kernel)⟩
theorem lw_p14 : lw_okq (⟨"PaidDebtsModel", "isPayment", "(I)Z"⟩, 29) := ⟨⟨by decide +kernel, by decide +kernel⟩, List.mem_of_getElem? (i := 785) (by decide +kernel), List.mem_of_getElem? (i := 914) (by decide +kernel), List.mem_of_getElem? (i := 915) (by decide +kernel)⟩
theorem lw_p15 : lw_okq (⟨"PaidDebtsModel", "goTo", "(II)V"⟩, 29) := ⟨⟨by decide +kernel, by decide +kernel⟩, List.mem_of_getElem? (i := 785) (by decide +kernel), List.mem_of_getElem? (i := 954) (by decide +kernel), List.mem_of_getElem? (i := 955) (by decide +kernel)⟩
def lw_privs_1 : List (MethodName × Nat) := [(⟨"PaidDebts", "isDebt", "(I)Z"⟩, 8), (⟨"PaidDebts", "isPayment", "(I)Z"⟩, 8), (⟨"PaidDebts", "isDebtOrNone", "(I)Z"⟩, 8), (⟨"PaidDebts", "goBehind", "(II)V"⟩, 8), (⟨"PaidDebts$Course", "runOn", "(II)V"⟩, 14), (⟨"PaidDebts$Course", "chosenDebt", "(LPaidDebts$Payment;)I"⟩, 14), (⟨"PaidDebts$Course", "give", "(IJ)J"⟩, 14), (⟨"PaidDebts$Course", "compareByKeys", "(II)I"⟩, 14), (⟨"PaidDebts$Course", "share", "(IIJ)J"⟩, 14), (⟨"PaidDebts$WordSearch", "tryFrom", "(I)V"⟩, 7), (⟨"PaidDebts$WordSearch", "weigh", "(J)V"⟩, 7), (⟨"PaidDebts$WordSearch", "isTriedAhead", "()Z"⟩, 7), (⟨"PaidDebtsModel", "isDebt", "(I)Z"⟩, 29), (⟨"PaidDebtsModel", "addPayment", "(II)V"⟩, 29), (⟨"PaidDebtsModel", "isPayment", "(I)Z"⟩, 29), (⟨"PaidDebtsModel", "goTo", "(II)V"⟩, 29)]
theorem lw_r1 : ∀ q ∈ lw_privs_1, lw_okq q := List.forall_mem_cons.mpr ⟨lw_p0, List.forall_mem_cons.mpr ⟨lw_p1, List.forall_mem_cons.mpr ⟨lw_p2, List.forall_mem_cons.mpr ⟨lw_p3, List.forall_mem_cons.mpr ⟨lw_p4, List.forall_mem_cons.mpr ⟨lw_p5, List.forall_mem_cons.mpr ⟨lw_p6, List.forall_mem_cons.mpr ⟨lw_p7, List.forall_mem_cons.mpr ⟨lw_p8, List.forall_mem_cons.mpr ⟨lw_p9, List.forall_mem_cons.mpr ⟨lw_p10, List.forall_mem_cons.mpr ⟨lw_p11, List.forall_mem_cons.mpr ⟨lw_p12, List.forall_mem_cons.mpr ⟨lw_p13, List.forall_mem_cons.mpr ⟨lw_p14, List.forall_mem_cons.mpr ⟨lw_p15, fun _ h => absurd h List.not_mem_nil⟩⟩⟩⟩⟩⟩⟩⟩⟩⟩⟩⟩⟩⟩⟩⟩
theorem lw_p16 : lw_okq (⟨"PaidDebtsModel", "beginDays", "()V"⟩, 29) := ⟨⟨by decide +kernel, by decide +kernel⟩, List.mem_of_getElem? (i := 785) (by decide +kernel), List.mem_of_getElem? (i := 958) (by decide +kernel), List.mem_of_getElem? (i := 959) (by decide +kernel)⟩
theorem lw_p17 : lw_okq (⟨"PaidDebtsModel", "goDay", "(II)V"⟩, 29) := ⟨⟨by decide +kernel, by decide +kernel⟩, List.mem_of_getElem? (i := 785) (by decide +kernel), List.mem_of_getElem? (i := 962) (by decide +kernel), List.mem_of_getElem? (i := 963) (by decide +kernel)⟩
theorem lw_p18 : lw_okq (⟨"PaidDebtsModel", "runOn", "(I)V"⟩, 29) := ⟨⟨by decide +kernel, by decide +kernel⟩, List.mem_of_getElem? (i := 785) (by decide +kernel), List.mem_of_getElem? (i := 966) (by decide +kernel), List.mem_of_getElem? (i := 967) (by decide +kernel)⟩
theorem lw_p19 : lw_okq (⟨"PaidDebtsModel", "putPayment", "(III)V"⟩, 29) := ⟨⟨by decide +kernel, by decide +kernel⟩, List.mem_of_getElem? (i := 785) (by decide +kernel), List.mem_of_getElem? (i := 971) (by decide +kernel), List.mem_of_getElem? (i := 972) (by decide +kernel)⟩
theorem lw_p20 : lw_okq (⟨"PaidDebtsModel", "putAll", "(IJIII)V"⟩, 29) := ⟨⟨by decide +kernel, by decide +kernel⟩, List.mem_of_getElem? (i := 785) (by decide +kernel), List.mem_of_getElem? (i := 975) (by decide +kernel), List.mem_of_getElem? (i := 976) (by decide +kernel)⟩
theorem lw_p21 : lw_okq (⟨"PaidDebtsModel", "isDead", "(II)Z"⟩, 29) := ⟨⟨by decide +kernel, by decide +kernel⟩, List.mem_of_getElem? (i := 785) (by decide +kernel), List.mem_of_getElem? (i := 979) (by decide +kernel), List.mem_of_getElem? (i := 980) (by decide +kernel)⟩
theorem lw_p22 : lw_okq (⟨"PaidDebtsModel", "leftOf", "(I)J"⟩, 29) := ⟨⟨by decide +kernel, by decide +kernel⟩, List.mem_of_getElem? (i := 785) (by decide +kernel), List.mem_of_getElem? (i := 983) (by decide +kernel), List.mem_of_getElem? (i := 984) (by decide +kernel)⟩
theorem lw_p23 : lw_okq (⟨"PaidDebtsModel", "has", "(II)Z"⟩, 29) := ⟨⟨by decide +kernel, by decide +kernel⟩, List.mem_of_getElem? (i := 785) (by decide +kernel), List.mem_of_getElem? (i := 987) (by decide +kernel), List.mem_of_getElem? (i := 988) (by decide +kernel)⟩
theorem lw_p24 : lw_okq (⟨"PaidDebtsModel", "putTo", "(IIJI)J"⟩, 29) := ⟨⟨by decide +kernel, by decide +kernel⟩, List.mem_of_getElem? (i := 785) (by decide +kernel), List.mem_of_getElem? (i := 991) (by decide +kernel), List.mem_of_getElem? (i := 992) (by decide +kernel)⟩
theorem lw_p25 : lw_okq (⟨"PaidDebtsModel", "findOrder", "(II)I"⟩, 29) := ⟨⟨by decide +kernel, by decide +kernel⟩, List.mem_of_getElem? (i := 785) (by decide +kernel), List.mem_of_getElem? (i := 995) (by decide +kernel), List.mem_of_getElem? (i := 996) (by decide +kernel)⟩
theorem lw_p26 : lw_okq (⟨"PaidDebtsModel", "compare", "(IIII)I"⟩, 29) := ⟨⟨by decide +kernel, by decide +kernel⟩, List.mem_of_getElem? (i := 785) (by decide +kernel), List.mem_of_getElem? (i := 999) (by decide +kernel), List.mem_of_getElem? (i := 1000) (by decide +kernel)⟩
theorem lw_p27 : lw_okq (⟨"PaidDebtsModel", "putParts", "(IIII)V"⟩, 29) := ⟨⟨by decide +kernel, by decide +kernel⟩, List.mem_of_getElem? (i := 785) (by decide +kernel), List.mem_of_getElem? (i := 1003) (by decide +kernel), List.mem_of_getElem? (i := 1004) (by decide +kernel)⟩
theorem lw_p28 : lw_okq (⟨"PaidDebtsModel", "owedOn", "(II)J"⟩, 29) := ⟨⟨by decide +kernel, by decide +kernel⟩, List.mem_of_getElem? (i := 785) (by decide +kernel), List.mem_of_getElem? (i := 1011) (by decide +kernel), List.mem_of_getElem? (i := 1012) (by decide +kernel)⟩
theorem lw_p29 : lw_okq (⟨"PaidDebtsModel", "owedNow", "()J"⟩, 29) := ⟨⟨by decide +kernel, by decide +kernel⟩, List.mem_of_getElem? (i := 785) (by decide +kernel), List.mem_of_getElem? (i := 1015) (by decide +kernel), List.mem_of_getElem? (i := 1016) (by decide +kernel)⟩
theorem lw_p30 : lw_okq (⟨"PaidDebtsModel", "findWords", "(III)V"⟩, 29) := ⟨⟨by decide +kernel, by decide +kernel⟩, List.mem_of_getElem? (i := 785) (by decide +kernel), List.mem_of_getElem? (i := 1047) (by decide +kernel), List.mem_of_getElem? (i := 1048) (by decide +kernel)⟩
theorem lw_p31 : lw_okq (⟨"PaidDebtsModel", "carry", "(Z)V"⟩, 29) := ⟨⟨by decide +kernel, by decide +kernel⟩, List.mem_of_getElem? (i := 785) (by decide +kernel), List.mem_of_getElem? (i := 1083) (by decide +kernel), List.mem_of_getElem? (i := 1084) (by decide +kernel)⟩
def lw_privs_2 : List (MethodName × Nat) := [(⟨"PaidDebtsModel", "beginDays", "()V"⟩, 29), (⟨"PaidDebtsModel", "goDay", "(II)V"⟩, 29), (⟨"PaidDebtsModel", "runOn", "(I)V"⟩, 29), (⟨"PaidDebtsModel", "putPayment", "(III)V"⟩, 29), (⟨"PaidDebtsModel", "putAll", "(IJIII)V"⟩, 29), (⟨"PaidDebtsModel", "isDead", "(II)Z"⟩, 29), (⟨"PaidDebtsModel", "leftOf", "(I)J"⟩, 29), (⟨"PaidDebtsModel", "has", "(II)Z"⟩, 29), (⟨"PaidDebtsModel", "putTo", "(IIJI)J"⟩, 29), (⟨"PaidDebtsModel", "findOrder", "(II)I"⟩, 29), (⟨"PaidDebtsModel", "compare", "(IIII)I"⟩, 29), (⟨"PaidDebtsModel", "putParts", "(IIII)V"⟩, 29), (⟨"PaidDebtsModel", "owedOn", "(II)J"⟩, 29), (⟨"PaidDebtsModel", "owedNow", "()J"⟩, 29), (⟨"PaidDebtsModel", "findWords", "(III)V"⟩, 29), (⟨"PaidDebtsModel", "carry", "(Z)V"⟩, 29)]
theorem lw_r2 : ∀ q ∈ lw_privs_2, lw_okq q := List.forall_mem_cons.mpr ⟨lw_p16, List.forall_mem_cons.mpr ⟨lw_p17, List.forall_mem_cons.mpr ⟨lw_p18, List.forall_mem_cons.mpr ⟨lw_p19, List.forall_mem_cons.mpr ⟨lw_p20, List.forall_mem_cons.mpr ⟨lw_p21, List.forall_mem_cons.mpr ⟨lw_p22, List.forall_mem_cons.mpr ⟨lw_p23, List.forall_mem_cons.mpr ⟨lw_p24, List.forall_mem_cons.mpr ⟨lw_p25, List.forall_mem_cons.mpr ⟨lw_p26, List.forall_mem_cons.mpr ⟨lw_p27, List.forall_mem_cons.mpr ⟨lw_p28, List.forall_mem_cons.mpr ⟨lw_p29, List.forall_mem_cons.mpr ⟨lw_p30, List.forall_mem_cons.mpr ⟨lw_p31, fun _ h => absurd h List.not_mem_nil⟩⟩⟩⟩⟩⟩⟩⟩⟩⟩⟩⟩⟩⟩⟩⟩
theorem lw_p32 : lw_okq (⟨"PaidDebtsModel", "lacksRow", "(IIII)I"⟩, 29) := ⟨⟨by decide +kernel, by decide +kernel⟩, List.mem_of_getElem? (i := 785) (by decide +kernel), List.mem_of_getElem? (i := 1106) (by decide +kernel), List.mem_of_getElem? (i := 1107) (by decide +kernel)⟩
def lw_privs_3 : List (MethodName × Nat) := [(⟨"PaidDebtsModel", "lacksRow", "(IIII)I"⟩, 29)]
theorem lw_r3 : ∀ q ∈ lw_privs_3, lw_okq q := List.forall_mem_cons.mpr ⟨lw_p32, fun _ h => absurd h List.not_mem_nil⟩
def lw_privs : List (MethodName × Nat) := lw_privs_1 ++ (lw_privs_2 ++ (lw_privs_3))
def lw_tbl : List Cond := k2_sels lw_privs ++ tables_1
theorem lw_privs_ok : ∀ q ∈ lw_privs, lw_okq q := by
  show ∀ q ∈ lw_privs_1 ++ (lw_privs_2 ++ (lw_privs_3)), lw_okq q
  exact List.forall_mem_append.mpr ⟨lw_r1, List.forall_mem_append.mpr ⟨lw_r2, lw_r3⟩⟩

theorem goodIn_r {big : List Cond} (ws : List Cond) (ps : List Nat) (hp : ws = ps.filterMap (fun i => big[i]?)) (h : ws.all goodWord = true) : GoodIn big ws := by
  intro w hw
  have h1 := List.all_eq_true.mp h w hw
  rw [hp] at hw
  obtain ⟨i, -, hi⟩ := List.mem_filterMap.mp hw
  have hm : w ∈ big := by first | exact List.mem_of_getElem? hi | exact List.getElem?_mem hi
  exact ⟨hm, good_of_word h1⟩
theorem goodIn_app {big a b : List Cond} (ha : GoodIn big a) (hb : GoodIn big b) : GoodIn big (a ++ b) := fun w h => (List.mem_append.mp h).elim (ha w) (hb w)
theorem goodIn_ca {big a b : List Cond} {c : Cond} (ha : GoodIn big (c :: a)) (hb : GoodIn big b) : GoodIn big (c :: (a ++ b)) := fun w h => (List.mem_cons.mp h).elim (fun e => ha w (List.mem_cons.mpr (Or.inl e))) (fun h => (List.mem_append.mp h).elim (fun h => ha w (List.mem_cons.mpr (Or.inr h))) (hb w))
theorem goodIn_sub {big ws : List Cond} (hm : ∀ w ∈ ws, w ∈ big) (h : ws.all goodWord = true) : GoodIn big ws := fun w hw => ⟨hm w hw, good_of_word (List.all_eq_true.mp h w hw)⟩
def RX0 : String := "PaidDebts$Book"
def TX0 : u_T := fun k => match k with
  | 0 => ("PaidDebts$Book", "debts", "[LPaidDebts$Debt;", true)
  | 1 => ("PaidDebts$Book", "debtCount", "I", false)
  | 2 => ("PaidDebts$Book", "payments", "[LPaidDebts$Payment;", true)
  | 3 => ("PaidDebts$Book", "paymentCount", "I", false)
  | _ => ("PaidDebts$Book", "laws", "[LPaidDebts$Law;", true)
def tyX0 : Nat → FieldType := fun k => match k with
  | 0 => .array (.object "PaidDebts$Debt")
  | 1 => .int
  | 2 => .array (.object "PaidDebts$Payment")
  | 3 => .int
  | _ => .array (.object "PaidDebts$Law")
abbrev wsX00 : List Cond := u_ws RX0 TX0 5
theorem nmX0 : ∀ a, a < 5 → ∀ b, b < 5 → a ≠ b → (TX0 a).2.1 ≠ (TX0 b).2.1 := by decide +kernel
theorem tyX0_ok : ∀ k, k < 5 → parseFieldDescriptor (TX0 k).2.2.1 = some (tyX0 k) := by decide +kernel
abbrev cX0_init : ByteArray := prog_2_method_1_code
def yX0_init : MethodName := ⟨RX0, "<init>", "()V"⟩
abbrev cX0_addPayment : ByteArray := prog_2_method_2_code
def yX0_addPayment : MethodName := ⟨RX0, "addPayment", "(II)V"⟩
abbrev cX0_debtsWithAtLeast : ByteArray := prog_2_method_3_code
def yX0_debtsWithAtLeast : MethodName := ⟨RX0, "debtsWithAtLeast", "(II)I"⟩
abbrev cX0_copyFrom : ByteArray := prog_2_method_4_code
def yX0_copyFrom : MethodName := ⟨RX0, "copyFrom", "(LPaidDebts$Book;)V"⟩
def RX1 : String := "PaidDebts$Course"
def TX1 : u_T := fun k => match k with
  | 0 => ("PaidDebts$Course", "book", "LPaidDebts$Book;", true)
  | 1 => ("PaidDebts$Course", "law", "LPaidDebts$Law;", true)
  | 2 => ("PaidDebts$Course", "day", "I", false)
  | 3 => ("PaidDebts$Course", "lastTaken", "I", false)
  | 4 => ("PaidDebts$Course", "sum", "[J", true)
  | 5 => ("PaidDebts$Course", "run", "[J", true)
  | 6 => ("PaidDebts$Course", "lastPutDay", "[I", true)
  | 7 => ("PaidDebts$Course", "paidDay", "[I", true)
  | 8 => ("PaidDebts$Course", "wakeDay", "[I", true)
  | 9 => ("PaidDebts$Course", "isDead", "[Z", true)
  | 10 => ("PaidDebts$Course", "order", "[I", true)
  | 11 => ("PaidDebts$Course", "toSum", "[J", true)
  | 12 => ("PaidDebts$Course", "toRun", "[J", true)
  | _ => ("PaidDebts$Course", "spare", "J", false)
def tyX1 : Nat → FieldType := fun k => match k with
  | 0 => .object "PaidDebts$Book"
  | 1 => .object "PaidDebts$Law"
  | 2 => .int
  | 3 => .int
  | 4 => .array .long
  | 5 => .array .long
  | 6 => .array .int
  | 7 => .array .int
  | 8 => .array .int
  | 9 => .array .boolean
  | 10 => .array .int
  | 11 => .array .long
  | 12 => .array .long
  | _ => .long
abbrev wsX10 : List Cond := u_ws RX1 TX1 14
theorem nmX1 : ∀ a, a < 14 → ∀ b, b < 14 → a ≠ b → (TX1 a).2.1 ≠ (TX1 b).2.1 := by decide +kernel
theorem tyX1_ok : ∀ k, k < 14 → parseFieldDescriptor (TX1 k).2.2.1 = some (tyX1 k) := by decide +kernel
abbrev cX1_init : ByteArray := prog_3_method_1_code
def yX1_init : MethodName := ⟨RX1, "<init>", "()V"⟩
abbrev cX1_start : ByteArray := prog_3_method_2_code
def yX1_start : MethodName := ⟨RX1, "start", "(LPaidDebts$Book;I)V"⟩
abbrev cX1_standWith : ByteArray := prog_3_method_3_code
def yX1_standWith : MethodName := ⟨RX1, "standWith", "(LPaidDebts$Course;)V"⟩
abbrev cX1_goAheadOf : ByteArray := prog_3_method_4_code
def yX1_goAheadOf : MethodName := ⟨RX1, "goAheadOf", "(I)V"⟩
abbrev cX1_goBehind : ByteArray := prog_3_method_5_code
def yX1_goBehind : MethodName := ⟨RX1, "goBehind", "(I)V"⟩
abbrev cX1_takeUpTo : ByteArray := prog_3_method_6_code
def yX1_takeUpTo : MethodName := ⟨RX1, "takeUpTo", "(I)V"⟩
abbrev cX1_nextPayment : ByteArray := prog_3_method_7_code
def yX1_nextPayment : MethodName := ⟨RX1, "nextPayment", "(I)I"⟩
abbrev cX1_take : ByteArray := prog_3_method_8_code
def yX1_take : MethodName := ⟨RX1, "take", "(I)V"⟩
abbrev cX1_runTo : ByteArray := prog_3_method_9_code
def yX1_runTo : MethodName := ⟨RX1, "runTo", "(I)V"⟩
abbrev cX1_runOn : ByteArray := prog_3_method_10_code
def yX1_runOn : MethodName := ⟨RX1, "runOn", "(II)V"⟩
abbrev cX1_isOpen : ByteArray := prog_3_method_11_code
def yX1_isOpen : MethodName := ⟨RX1, "isOpen", "(I)Z"⟩
abbrev cX1_sumLeft : ByteArray := prog_3_method_12_code
def yX1_sumLeft : MethodName := ⟨RX1, "sumLeft", "(I)J"⟩
abbrev cX1_runLeft : ByteArray := prog_3_method_13_code
def yX1_runLeft : MethodName := ⟨RX1, "runLeft", "(I)J"⟩
abbrev cX1_leftOf : ByteArray := prog_3_method_14_code
def yX1_leftOf : MethodName := ⟨RX1, "leftOf", "(I)J"⟩
abbrev cX1_owedNow : ByteArray := prog_3_method_15_code
def yX1_owedNow : MethodName := ⟨RX1, "owedNow", "()J"⟩
abbrev cX1_isLeftAlike : ByteArray := prog_3_method_16_code
def yX1_isLeftAlike : MethodName := ⟨RX1, "isLeftAlike", "(LPaidDebts$Course;)Z"⟩
abbrev cX1_findDead : ByteArray := prog_3_method_17_code
def yX1_findDead : MethodName := ⟨RX1, "findDead", "()V"⟩
abbrev cX1_orderOpen : ByteArray := prog_3_method_18_code
def yX1_orderOpen : MethodName := ⟨RX1, "orderOpen", "()I"⟩
abbrev cX1_compareByKeys : ByteArray := prog_3_method_19_code
def yX1_compareByKeys : MethodName := ⟨RX1, "compareByKeys", "(II)I"⟩
abbrev cX1_firstIf : ByteArray := prog_3_method_20_code
def yX1_firstIf : MethodName := ⟨RX1, "firstIf", "(ZZ)I"⟩
abbrev cX1_chosenDebt : ByteArray := prog_3_method_21_code
def yX1_chosenDebt : MethodName := ⟨RX1, "chosenDebt", "(LPaidDebts$Payment;)I"⟩
abbrev cX1_heedsWord : ByteArray := prog_3_method_22_code
def yX1_heedsWord : MethodName := ⟨RX1, "heedsWord", "(I)Z"⟩
abbrev cX1_distribute : ByteArray := prog_3_method_23_code
def yX1_distribute : MethodName := ⟨RX1, "distribute", "(JI)V"⟩
abbrev cX1_share : ByteArray := prog_3_method_24_code
def yX1_share : MethodName := ⟨RX1, "share", "(IIJ)J"⟩
abbrev cX1_give : ByteArray := prog_3_method_25_code
def yX1_give : MethodName := ⟨RX1, "give", "(IJ)J"⟩
def RX2 : String := "PaidDebts$Debt"
def TX2 : u_T := fun k => match k with
  | 0 => ("PaidDebts$Debt", "whole", "I", false)
  | 1 => ("PaidDebts$Debt", "since", "I", false)
  | _ => ("PaidDebts$Debt", "traits", "[I", true)
def tyX2 : Nat → FieldType := fun k => match k with
  | 0 => .int
  | 1 => .int
  | _ => .array .int
abbrev wsX20 : List Cond := u_ws RX2 TX2 3
theorem nmX2 : ∀ a, a < 3 → ∀ b, b < 3 → a ≠ b → (TX2 a).2.1 ≠ (TX2 b).2.1 := by decide +kernel
theorem tyX2_ok : ∀ k, k < 3 → parseFieldDescriptor (TX2 k).2.2.1 = some (tyX2 k) := by decide +kernel
abbrev cX2_init : ByteArray := prog_4_method_1_code
def yX2_init : MethodName := ⟨RX2, "<init>", "()V"⟩
abbrev cX2_begin : ByteArray := prog_4_method_2_code
def yX2_begin : MethodName := ⟨RX2, "begin", "(IIII)V"⟩
abbrev cX2_isSecured : ByteArray := prog_4_method_3_code
def yX2_isSecured : MethodName := ⟨RX2, "isSecured", "()Z"⟩
abbrev cX2_copyFrom : ByteArray := prog_4_method_4_code
def yX2_copyFrom : MethodName := ⟨RX2, "copyFrom", "(LPaidDebts$Debt;)V"⟩
def RX3 : String := "PaidDebts$Law"
def TX3 : u_T := fun k => match k with
  | 0 => ("PaidDebts$Law", "letters", "[I", true)
  | 1 => ("PaidDebts$Law", "length", "I", false)
  | _ => ("PaidDebts$Law", "letterBits", "I", false)
def tyX3 : Nat → FieldType := fun k => match k with
  | 0 => .array .int
  | 1 => .int
  | _ => .int
abbrev wsX30 : List Cond := u_ws RX3 TX3 3
theorem nmX3 : ∀ a, a < 3 → ∀ b, b < 3 → a ≠ b → (TX3 a).2.1 ≠ (TX3 b).2.1 := by decide +kernel
theorem tyX3_ok : ∀ k, k < 3 → parseFieldDescriptor (TX3 k).2.2.1 = some (tyX3 k) := by decide +kernel
abbrev cX3_init : ByteArray := prog_5_method_1_code
def yX3_init : MethodName := ⟨RX3, "<init>", "()V"⟩
abbrev cX3_has : ByteArray := prog_5_method_2_code
def yX3_has : MethodName := ⟨RX3, "has", "(I)Z"⟩
abbrev cX3_read : ByteArray := prog_5_method_3_code
def yX3_read : MethodName := ⟨RX3, "read", "(LPaidDebts$Tape;)V"⟩
abbrev cX3_copyFrom : ByteArray := prog_5_method_4_code
def yX3_copyFrom : MethodName := ⟨RX3, "copyFrom", "(LPaidDebts$Law;)V"⟩
abbrev cX3_bitOf : ByteArray := prog_5_method_5_code
def yX3_bitOf : MethodName := ⟨RX3, "bitOf", "(I)I"⟩
def RX4 : String := "PaidDebts$Payment"
def TX4 : u_T := fun k => match k with
  | 0 => ("PaidDebts$Payment", "day", "I", false)
  | 1 => ("PaidDebts$Payment", "whole", "I", false)
  | 2 => ("PaidDebts$Payment", "word", "I", false)
  | _ => ("PaidDebts$Payment", "answer", "I", false)
def tyX4 : Nat → FieldType := fun k => match k with
  | 0 => .int
  | 1 => .int
  | 2 => .int
  | _ => .int
abbrev wsX40 : List Cond := u_ws RX4 TX4 4
theorem nmX4 : ∀ a, a < 4 → ∀ b, b < 4 → a ≠ b → (TX4 a).2.1 ≠ (TX4 b).2.1 := by decide +kernel
theorem tyX4_ok : ∀ k, k < 4 → parseFieldDescriptor (TX4 k).2.2.1 = some (tyX4 k) := by decide +kernel
abbrev cX4_init : ByteArray := prog_6_method_1_code
def yX4_init : MethodName := ⟨RX4, "<init>", "()V"⟩
abbrev cX4_copyFrom : ByteArray := prog_6_method_2_code
def yX4_copyFrom : MethodName := ⟨RX4, "copyFrom", "(LPaidDebts$Payment;)V"⟩
def RX5 : String := "PaidDebts$Sheet"
def TX5 : u_T := fun k => match k with
  | 0 => ("PaidDebts$Sheet", "isThere", "Z", false)
  | 1 => ("PaidDebts$Sheet", "length", "I", false)
  | 2 => ("PaidDebts$Sheet", "items", "[I", true)
  | _ => ("PaidDebts$Sheet", "lane", "I", false)
def tyX5 : Nat → FieldType := fun k => match k with
  | 0 => .boolean
  | 1 => .int
  | 2 => .array .int
  | _ => .int
abbrev wsX50 : List Cond := u_ws RX5 TX5 4
theorem nmX5 : ∀ a, a < 4 → ∀ b, b < 4 → a ≠ b → (TX5 a).2.1 ≠ (TX5 b).2.1 := by decide +kernel
theorem tyX5_ok : ∀ k, k < 4 → parseFieldDescriptor (TX5 k).2.2.1 = some (tyX5 k) := by decide +kernel
abbrev cX5_init : ByteArray := prog_7_method_1_code
def yX5_init : MethodName := ⟨RX5, "<init>", "()V"⟩
abbrev cX5_begin : ByteArray := prog_7_method_2_code
def yX5_begin : MethodName := ⟨RX5, "begin", "(II)V"⟩
abbrev cX5_refusal : ByteArray := prog_7_method_3_code
def yX5_refusal : MethodName := ⟨RX5, "refusal", "(III)I"⟩
abbrev cX5_write : ByteArray := prog_7_method_4_code
def yX5_write : MethodName := ⟨RX5, "write", "(II)V"⟩
def RX6 : String := "PaidDebts$Tape"
def TX6 : u_T := fun k => match k with
  | 0 => ("PaidDebts$Tape", "bytes", "[I", true)
  | _ => ("PaidDebts$Tape", "length", "I", false)
def tyX6 : Nat → FieldType := fun k => match k with
  | 0 => .array .int
  | _ => .int
abbrev wsX60 : List Cond := u_ws RX6 TX6 2
theorem nmX6 : ∀ a, a < 2 → ∀ b, b < 2 → a ≠ b → (TX6 a).2.1 ≠ (TX6 b).2.1 := by decide +kernel
theorem tyX6_ok : ∀ k, k < 2 → parseFieldDescriptor (TX6 k).2.2.1 = some (tyX6 k) := by decide +kernel
abbrev cX6_init : ByteArray := prog_8_method_1_code
def yX6_init : MethodName := ⟨RX6, "<init>", "()V"⟩
abbrev cX6_append : ByteArray := prog_8_method_2_code
def yX6_append : MethodName := ⟨RX6, "append", "(I)V"⟩
abbrev cX6_fault : ByteArray := prog_8_method_3_code
def yX6_fault : MethodName := ⟨RX6, "fault", "()I"⟩
def RX7 : String := "PaidDebts$WordSearch"
def TX7 : u_T := fun k => match k with
  | 0 => ("PaidDebts$WordSearch", "found", "[I", true)
  | 1 => ("PaidDebts$WordSearch", "leastOwed", "J", false)
  | 2 => ("PaidDebts$WordSearch", "hasFound", "Z", false)
  | 3 => ("PaidDebts$WordSearch", "tried", "[I", true)
  | 4 => ("PaidDebts$WordSearch", "courses", "[LPaidDebts$Course;", true)
  | 5 => ("PaidDebts$WordSearch", "choices", "I", false)
  | _ => ("PaidDebts$WordSearch", "day", "I", false)
def tyX7 : Nat → FieldType := fun k => match k with
  | 0 => .array .int
  | 1 => .long
  | 2 => .boolean
  | 3 => .array .int
  | 4 => .array (.object "PaidDebts$Course")
  | 5 => .int
  | _ => .int
abbrev wsX70 : List Cond := u_ws RX7 TX7 7
theorem nmX7 : ∀ a, a < 7 → ∀ b, b < 7 → a ≠ b → (TX7 a).2.1 ≠ (TX7 b).2.1 := by decide +kernel
theorem tyX7_ok : ∀ k, k < 7 → parseFieldDescriptor (TX7 k).2.2.1 = some (tyX7 k) := by decide +kernel
abbrev cX7_init : ByteArray := prog_9_method_1_code
def yX7_init : MethodName := ⟨RX7, "<init>", "()V"⟩
abbrev cX7_find : ByteArray := prog_9_method_2_code
def yX7_find : MethodName := ⟨RX7, "find", "(LPaidDebts$Book;III)V"⟩
abbrev cX7_tryFrom : ByteArray := prog_9_method_3_code
def yX7_tryFrom : MethodName := ⟨RX7, "tryFrom", "(I)V"⟩
abbrev cX7_weigh : ByteArray := prog_9_method_4_code
def yX7_weigh : MethodName := ⟨RX7, "weigh", "(J)V"⟩
abbrev cX7_isTriedAhead : ByteArray := prog_9_method_5_code
def yX7_isTriedAhead : MethodName := ⟨RX7, "isTriedAhead", "()Z"⟩
def RX8 : String := "PaidDebts"
def TX8 : u_T := fun k => match k with
  | 0 => ("PaidDebts", "book", "LPaidDebts$Book;", true)
  | 1 => ("PaidDebts", "kept", "LPaidDebts$Book;", true)
  | 2 => ("PaidDebts", "hasImage", "Z", false)
  | 3 => ("PaidDebts", "course", "LPaidDebts$Course;", true)
  | 4 => ("PaidDebts", "otherCourse", "LPaidDebts$Course;", true)
  | 5 => ("PaidDebts", "search", "LPaidDebts$WordSearch;", true)
  | 6 => ("PaidDebts", "tape", "LPaidDebts$Tape;", true)
  | _ => ("PaidDebts", "sheets", "[LPaidDebts$Sheet;", true)
def tyX8 : Nat → FieldType := fun k => match k with
  | 0 => .object "PaidDebts$Book"
  | 1 => .object "PaidDebts$Book"
  | 2 => .boolean
  | 3 => .object "PaidDebts$Course"
  | 4 => .object "PaidDebts$Course"
  | 5 => .object "PaidDebts$WordSearch"
  | 6 => .object "PaidDebts$Tape"
  | _ => .array (.object "PaidDebts$Sheet")
abbrev wsX80 : List Cond := u_ws RX8 TX8 8
theorem nmX8 : ∀ a, a < 8 → ∀ b, b < 8 → a ≠ b → (TX8 a).2.1 ≠ (TX8 b).2.1 := by decide +kernel
theorem tyX8_ok : ∀ k, k < 8 → parseFieldDescriptor (TX8 k).2.2.1 = some (tyX8 k) := by decide +kernel
abbrev cX8_init : ByteArray := prog_1_method_1_code
def yX8_init : MethodName := ⟨RX8, "<init>", "()V"⟩
abbrev cX8_debt : ByteArray := prog_1_method_2_code
def yX8_debt : MethodName := ⟨RX8, "debt", "(IIII)I"⟩
abbrev cX8_set : ByteArray := prog_1_method_3_code
def yX8_set : MethodName := ⟨RX8, "set", "(III)I"⟩
abbrev cX8_pay : ByteArray := prog_1_method_4_code
def yX8_pay : MethodName := ⟨RX8, "pay", "(II)I"⟩
abbrev cX8_pays : ByteArray := prog_1_method_5_code
def yX8_pays : MethodName := ⟨RX8, "pays", "(IIII)I"⟩
abbrev cX8_word : ByteArray := prog_1_method_6_code
def yX8_word : MethodName := ⟨RX8, "word", "(III)I"⟩
abbrev cX8_move : ByteArray := prog_1_method_7_code
def yX8_move : MethodName := ⟨RX8, "move", "(II)I"⟩
abbrev cX8_count : ByteArray := prog_1_method_8_code
def yX8_count : MethodName := ⟨RX8, "count", "(I)I"⟩
abbrev cX8_type : ByteArray := prog_1_method_9_code
def yX8_type : MethodName := ⟨RX8, "type", "(JI)I"⟩
abbrev cX8_law : ByteArray := prog_1_method_10_code
def yX8_law : MethodName := ⟨RX8, "law", "(I)I"⟩
abbrev cX8_letter : ByteArray := prog_1_method_11_code
def yX8_letter : MethodName := ⟨RX8, "letter", "(II)I"⟩
abbrev cX8_left : ByteArray := prog_1_method_12_code
def yX8_left : MethodName := ⟨RX8, "left", "(IIII)J"⟩
abbrev cX8_owed : ByteArray := prog_1_method_13_code
def yX8_owed : MethodName := ⟨RX8, "owed", "(II)J"⟩
abbrev cX8_put : ByteArray := prog_1_method_14_code
def yX8_put : MethodName := ⟨RX8, "put", "(IIII)J"⟩
abbrev cX8_paid : ByteArray := prog_1_method_15_code
def yX8_paid : MethodName := ⟨RX8, "paid", "(II)I"⟩
abbrev cX8_dead : ByteArray := prog_1_method_16_code
def yX8_dead : MethodName := ⟨RX8, "dead", "(III)I"⟩
abbrev cX8_wakes : ByteArray := prog_1_method_17_code
def yX8_wakes : MethodName := ⟨RX8, "wakes", "(II)I"⟩
abbrev cX8_free : ByteArray := prog_1_method_18_code
def yX8_free : MethodName := ⟨RX8, "free", "(II)I"⟩
abbrev cX8_rank : ByteArray := prog_1_method_19_code
def yX8_rank : MethodName := ⟨RX8, "rank", "(III)I"⟩
abbrev cX8_best : ByteArray := prog_1_method_20_code
def yX8_best : MethodName := ⟨RX8, "best", "(IIII)I"⟩
abbrev cX8_least : ByteArray := prog_1_method_21_code
def yX8_least : MethodName := ⟨RX8, "least", "(III)J"⟩
abbrev cX8_answer : ByteArray := prog_1_method_22_code
def yX8_answer : MethodName := ⟨RX8, "answer", "(III)I"⟩
abbrev cX8_hangs : ByteArray := prog_1_method_23_code
def yX8_hangs : MethodName := ⟨RX8, "hangs", "(IIIIII)J"⟩
abbrev cX8_plan : ByteArray := prog_1_method_24_code
def yX8_plan : MethodName := ⟨RX8, "plan", "(IIIII)J"⟩
abbrev cX8_parts : ByteArray := prog_1_method_25_code
def yX8_parts : MethodName := ⟨RX8, "parts", "()I"⟩
abbrev cX8_gap : ByteArray := prog_1_method_26_code
def yX8_gap : MethodName := ⟨RX8, "gap", "(I)J"⟩
abbrev cX8_judge : ByteArray := prog_1_method_27_code
def yX8_judge : MethodName := ⟨RX8, "judge", "(IIIII)I"⟩
abbrev cX8_image : ByteArray := prog_1_method_28_code
def yX8_image : MethodName := ⟨RX8, "image", "()I"⟩
abbrev cX8_restore : ByteArray := prog_1_method_29_code
def yX8_restore : MethodName := ⟨RX8, "restore", "()I"⟩
abbrev cX8_sheet : ByteArray := prog_1_method_30_code
def yX8_sheet : MethodName := ⟨RX8, "sheet", "(III)I"⟩
abbrev cX8_drop : ByteArray := prog_1_method_31_code
def yX8_drop : MethodName := ⟨RX8, "drop", "(I)I"⟩
abbrev cX8_item : ByteArray := prog_1_method_32_code
def yX8_item : MethodName := ⟨RX8, "item", "(IIII)I"⟩
abbrev cX8_within : ByteArray := prog_1_method_33_code
def yX8_within : MethodName := ⟨RX8, "within", "(III)Z"⟩
abbrev cX8_isDay : ByteArray := prog_1_method_34_code
def yX8_isDay : MethodName := ⟨RX8, "isDay", "(I)Z"⟩
abbrev cX8_isPayable : ByteArray := prog_1_method_35_code
def yX8_isPayable : MethodName := ⟨RX8, "isPayable", "(II)Z"⟩
abbrev cX8_isLaw : ByteArray := prog_1_method_36_code
def yX8_isLaw : MethodName := ⟨RX8, "isLaw", "(I)Z"⟩
abbrev cX8_isSheet : ByteArray := prog_1_method_37_code
def yX8_isSheet : MethodName := ⟨RX8, "isSheet", "(I)Z"⟩
abbrev cX8_isLane : ByteArray := prog_1_method_38_code
def yX8_isLane : MethodName := ⟨RX8, "isLane", "(I)Z"⟩
abbrev cX8_isDebt : ByteArray := prog_1_method_39_code
def yX8_isDebt : MethodName := ⟨RX8, "isDebt", "(I)Z"⟩
abbrev cX8_isDebtOrNone : ByteArray := prog_1_method_40_code
def yX8_isDebtOrNone : MethodName := ⟨RX8, "isDebtOrNone", "(I)Z"⟩
abbrev cX8_isPayment : ByteArray := prog_1_method_41_code
def yX8_isPayment : MethodName := ⟨RX8, "isPayment", "(I)Z"⟩
abbrev cX8_dayOrNone : ByteArray := prog_1_method_42_code
def yX8_dayOrNone : MethodName := ⟨RX8, "dayOrNone", "(I)I"⟩
abbrev cX8_byteOf : ByteArray := prog_1_method_43_code
def yX8_byteOf : MethodName := ⟨RX8, "byteOf", "(JI)I"⟩
abbrev cX8_allSigns : ByteArray := prog_1_method_44_code
def yX8_allSigns : MethodName := ⟨RX8, "allSigns", "(JI)Z"⟩
abbrev cX8_goBehind : ByteArray := prog_1_method_45_code
def yX8_goBehind : MethodName := ⟨RX8, "goBehind", "(II)V"⟩
def RX9 : String := "PaidDebtsModel"
def TX9 : u_T := fun k => match k with
  | 0 => ("PaidDebtsModel", "debts", "I", false)
  | 1 => ("PaidDebtsModel", "debt", "[I", true)
  | 2 => ("PaidDebtsModel", "payments", "I", false)
  | 3 => ("PaidDebtsModel", "payment", "[I", true)
  | 4 => ("PaidDebtsModel", "tape", "[I", true)
  | 5 => ("PaidDebtsModel", "taped", "I", false)
  | 6 => ("PaidDebtsModel", "letters", "[I", true)
  | 7 => ("PaidDebtsModel", "sizes", "[I", true)
  | 8 => ("PaidDebtsModel", "read", "[I", true)
  | 9 => ("PaidDebtsModel", "sums", "[J", true)
  | 10 => ("PaidDebtsModel", "runs", "[J", true)
  | 11 => ("PaidDebtsModel", "lastPut", "[I", true)
  | 12 => ("PaidDebtsModel", "woke", "[I", true)
  | 13 => ("PaidDebtsModel", "toSum", "[J", true)
  | 14 => ("PaidDebtsModel", "toRun", "[J", true)
  | 15 => ("PaidDebtsModel", "over", "J", false)
  | 16 => ("PaidDebtsModel", "wasDead", "[Z", true)
  | 17 => ("PaidDebtsModel", "order", "[I", true)
  | 18 => ("PaidDebtsModel", "parts", "[J", true)
  | 19 => ("PaidDebtsModel", "group", "[I", true)
  | 20 => ("PaidDebtsModel", "best", "[I", true)
  | 21 => ("PaidDebtsModel", "bestOwed", "J", false)
  | 22 => ("PaidDebtsModel", "had", "[I", true)
  | 23 => ("PaidDebtsModel", "lefts", "[J", true)
  | 24 => ("PaidDebtsModel", "isKept", "Z", false)
  | 25 => ("PaidDebtsModel", "kept", "[I", true)
  | 26 => ("PaidDebtsModel", "lanes", "[I", true)
  | 27 => ("PaidDebtsModel", "rowSizes", "[I", true)
  | _ => ("PaidDebtsModel", "items", "[I", true)
def tyX9 : Nat → FieldType := fun k => match k with
  | 0 => .int
  | 1 => .array .int
  | 2 => .int
  | 3 => .array .int
  | 4 => .array .int
  | 5 => .int
  | 6 => .array .int
  | 7 => .array .int
  | 8 => .array .int
  | 9 => .array .long
  | 10 => .array .long
  | 11 => .array .int
  | 12 => .array .int
  | 13 => .array .long
  | 14 => .array .long
  | 15 => .long
  | 16 => .array .boolean
  | 17 => .array .int
  | 18 => .array .long
  | 19 => .array .int
  | 20 => .array .int
  | 21 => .long
  | 22 => .array .int
  | 23 => .array .long
  | 24 => .boolean
  | 25 => .array .int
  | 26 => .array .int
  | 27 => .array .int
  | _ => .array .int
abbrev wsX90 : List Cond := u_ws RX9 TX9 29
theorem nmX9 : ∀ a, a < 29 → ∀ b, b < 29 → a ≠ b → (TX9 a).2.1 ≠ (TX9 b).2.1 := by decide +kernel
theorem tyX9_ok : ∀ k, k < 29 → parseFieldDescriptor (TX9 k).2.2.1 = some (tyX9 k) := by decide +kernel
abbrev cX9_in : ByteArray := prog_11_method_1_code
def yX9_in : MethodName := ⟨RX9, "in", "(JJJ)Z"⟩
abbrev cX9_init : ByteArray := prog_11_method_2_code
def yX9_init : MethodName := ⟨RX9, "<init>", "()V"⟩
abbrev cX9_isDay : ByteArray := prog_11_method_3_code
def yX9_isDay : MethodName := ⟨RX9, "isDay", "(I)Z"⟩
abbrev cX9_isDebt : ByteArray := prog_11_method_4_code
def yX9_isDebt : MethodName := ⟨RX9, "isDebt", "(I)Z"⟩
abbrev cX9_isPayment : ByteArray := prog_11_method_5_code
def yX9_isPayment : MethodName := ⟨RX9, "isPayment", "(I)Z"⟩
abbrev cX9_isLaw : ByteArray := prog_11_method_6_code
def yX9_isLaw : MethodName := ⟨RX9, "isLaw", "(I)Z"⟩
abbrev cX9_debt : ByteArray := prog_11_method_7_code
def yX9_debt : MethodName := ⟨RX9, "debt", "(IIII)I"⟩
abbrev cX9_set : ByteArray := prog_11_method_8_code
def yX9_set : MethodName := ⟨RX9, "set", "(III)I"⟩
abbrev cX9_addPayment : ByteArray := prog_11_method_9_code
def yX9_addPayment : MethodName := ⟨RX9, "addPayment", "(II)V"⟩
abbrev cX9_pay : ByteArray := prog_11_method_10_code
def yX9_pay : MethodName := ⟨RX9, "pay", "(II)I"⟩
abbrev cX9_word : ByteArray := prog_11_method_11_code
def yX9_word : MethodName := ⟨RX9, "word", "(III)I"⟩
abbrev cX9_move : ByteArray := prog_11_method_12_code
def yX9_move : MethodName := ⟨RX9, "move", "(II)I"⟩
abbrev cX9_count : ByteArray := prog_11_method_13_code
def yX9_count : MethodName := ⟨RX9, "count", "(I)I"⟩
abbrev cX9_type : ByteArray := prog_11_method_14_code
def yX9_type : MethodName := ⟨RX9, "type", "(JI)I"⟩
abbrev cX9_isLetter : ByteArray := prog_11_method_15_code
def yX9_isLetter : MethodName := ⟨RX9, "isLetter", "(I)Z"⟩
abbrev cX9_law : ByteArray := prog_11_method_16_code
def yX9_law : MethodName := ⟨RX9, "law", "(I)I"⟩
abbrev cX9_letter : ByteArray := prog_11_method_17_code
def yX9_letter : MethodName := ⟨RX9, "letter", "(II)I"⟩
abbrev cX9_has : ByteArray := prog_11_method_18_code
def yX9_has : MethodName := ⟨RX9, "has", "(II)Z"⟩
abbrev cX9_beginDays : ByteArray := prog_11_method_19_code
def yX9_beginDays : MethodName := ⟨RX9, "beginDays", "()V"⟩
abbrev cX9_runOn : ByteArray := prog_11_method_20_code
def yX9_runOn : MethodName := ⟨RX9, "runOn", "(I)V"⟩
abbrev cX9_leftOf : ByteArray := prog_11_method_21_code
def yX9_leftOf : MethodName := ⟨RX9, "leftOf", "(I)J"⟩
abbrev cX9_isDead : ByteArray := prog_11_method_22_code
def yX9_isDead : MethodName := ⟨RX9, "isDead", "(II)Z"⟩
abbrev cX9_putTo : ByteArray := prog_11_method_23_code
def yX9_putTo : MethodName := ⟨RX9, "putTo", "(IIJI)J"⟩
abbrev cX9_compare : ByteArray := prog_11_method_24_code
def yX9_compare : MethodName := ⟨RX9, "compare", "(IIII)I"⟩
abbrev cX9_findOrder : ByteArray := prog_11_method_25_code
def yX9_findOrder : MethodName := ⟨RX9, "findOrder", "(II)I"⟩
abbrev cX9_putParts : ByteArray := prog_11_method_26_code
def yX9_putParts : MethodName := ⟨RX9, "putParts", "(IIII)V"⟩
abbrev cX9_putAll : ByteArray := prog_11_method_27_code
def yX9_putAll : MethodName := ⟨RX9, "putAll", "(IJIII)V"⟩
abbrev cX9_putPayment : ByteArray := prog_11_method_28_code
def yX9_putPayment : MethodName := ⟨RX9, "putPayment", "(III)V"⟩
abbrev cX9_goDay : ByteArray := prog_11_method_29_code
def yX9_goDay : MethodName := ⟨RX9, "goDay", "(II)V"⟩
abbrev cX9_goTo : ByteArray := prog_11_method_30_code
def yX9_goTo : MethodName := ⟨RX9, "goTo", "(II)V"⟩
abbrev cX9_owedNow : ByteArray := prog_11_method_31_code
def yX9_owedNow : MethodName := ⟨RX9, "owedNow", "()J"⟩
abbrev cX9_owedOn : ByteArray := prog_11_method_32_code
def yX9_owedOn : MethodName := ⟨RX9, "owedOn", "(II)J"⟩
abbrev cX9_left : ByteArray := prog_11_method_33_code
def yX9_left : MethodName := ⟨RX9, "left", "(IIII)J"⟩
abbrev cX9_owed : ByteArray := prog_11_method_34_code
def yX9_owed : MethodName := ⟨RX9, "owed", "(II)J"⟩
abbrev cX9_put : ByteArray := prog_11_method_35_code
def yX9_put : MethodName := ⟨RX9, "put", "(IIII)J"⟩
abbrev cX9_paid : ByteArray := prog_11_method_36_code
def yX9_paid : MethodName := ⟨RX9, "paid", "(II)I"⟩
abbrev cX9_dead : ByteArray := prog_11_method_37_code
def yX9_dead : MethodName := ⟨RX9, "dead", "(III)I"⟩
abbrev cX9_wakes : ByteArray := prog_11_method_38_code
def yX9_wakes : MethodName := ⟨RX9, "wakes", "(II)I"⟩
abbrev cX9_free : ByteArray := prog_11_method_39_code
def yX9_free : MethodName := ⟨RX9, "free", "(II)I"⟩
abbrev cX9_rank : ByteArray := prog_11_method_40_code
def yX9_rank : MethodName := ⟨RX9, "rank", "(III)I"⟩
abbrev cX9_findWords : ByteArray := prog_11_method_41_code
def yX9_findWords : MethodName := ⟨RX9, "findWords", "(III)V"⟩
abbrev cX9_best : ByteArray := prog_11_method_42_code
def yX9_best : MethodName := ⟨RX9, "best", "(IIII)I"⟩
abbrev cX9_least : ByteArray := prog_11_method_43_code
def yX9_least : MethodName := ⟨RX9, "least", "(III)J"⟩
abbrev cX9_answer : ByteArray := prog_11_method_44_code
def yX9_answer : MethodName := ⟨RX9, "answer", "(III)I"⟩
abbrev cX9_hangs : ByteArray := prog_11_method_45_code
def yX9_hangs : MethodName := ⟨RX9, "hangs", "(IIIIII)J"⟩
abbrev cX9_plan : ByteArray := prog_11_method_46_code
def yX9_plan : MethodName := ⟨RX9, "plan", "(IIIII)J"⟩
abbrev cX9_parts : ByteArray := prog_11_method_47_code
def yX9_parts : MethodName := ⟨RX9, "parts", "()I"⟩
abbrev cX9_gap : ByteArray := prog_11_method_48_code
def yX9_gap : MethodName := ⟨RX9, "gap", "(I)J"⟩
abbrev cX9_carry : ByteArray := prog_11_method_49_code
def yX9_carry : MethodName := ⟨RX9, "carry", "(Z)V"⟩
abbrev cX9_image : ByteArray := prog_11_method_50_code
def yX9_image : MethodName := ⟨RX9, "image", "()I"⟩
abbrev cX9_restore : ByteArray := prog_11_method_51_code
def yX9_restore : MethodName := ⟨RX9, "restore", "()I"⟩
abbrev cX9_isSheet : ByteArray := prog_11_method_52_code
def yX9_isSheet : MethodName := ⟨RX9, "isSheet", "(II)Z"⟩
abbrev cX9_sheet : ByteArray := prog_11_method_53_code
def yX9_sheet : MethodName := ⟨RX9, "sheet", "(III)I"⟩
abbrev cX9_drop : ByteArray := prog_11_method_54_code
def yX9_drop : MethodName := ⟨RX9, "drop", "(I)I"⟩
abbrev cX9_lacksRow : ByteArray := prog_11_method_55_code
def yX9_lacksRow : MethodName := ⟨RX9, "lacksRow", "(IIII)I"⟩
abbrev cX9_item : ByteArray := prog_11_method_56_code
def yX9_item : MethodName := ⟨RX9, "item", "(IIII)I"⟩
abbrev cX9_pays : ByteArray := prog_11_method_57_code
def yX9_pays : MethodName := ⟨RX9, "pays", "(IIII)I"⟩
abbrev cX9_judge : ByteArray := prog_11_method_58_code
def yX9_judge : MethodName := ⟨RX9, "judge", "(IIIII)I"⟩
def RJ11 : String := "java/lang/Character"
abbrev cJ11_isValidCodePoint_9a6ad : ByteArray := prog_12_method_11_code
def yJ11_isValidCodePoint_9a6ad : MethodName := ⟨RJ11, "isValidCodePoint", "(I)Z"⟩
abbrev cJ11_highSurrogate_5068e : ByteArray := prog_12_method_28_code
def yJ11_highSurrogate_5068e : MethodName := ⟨RJ11, "highSurrogate", "(I)C"⟩
abbrev cJ11_lowSurrogate_5068e : ByteArray := prog_12_method_29_code
def yJ11_lowSurrogate_5068e : MethodName := ⟨RJ11, "lowSurrogate", "(I)C"⟩
def RJ6 : String := "java/lang/Integer"
abbrev cJ6_compare_7cf53 : ByteArray := prog_13_method_40_code
def yJ6_compare_7cf53 : MethodName := ⟨RJ6, "compare", "(II)I"⟩
def RJ13 : String := "java/lang/Long"
abbrev cJ13_compare_74951 : ByteArray := prog_14_method_42_code
def yJ13_compare_74951 : MethodName := ⟨RJ13, "compare", "(JJ)I"⟩
def RJ9 : String := "java/lang/Math"
abbrev cJ9_max_7cf53 : ByteArray := prog_15_method_65_code
def yJ9_max_7cf53 : MethodName := ⟨RJ9, "max", "(II)I"⟩
abbrev cJ9_max_f86c9 : ByteArray := prog_15_method_66_code
def yJ9_max_f86c9 : MethodName := ⟨RJ9, "max", "(JJ)J"⟩
abbrev cJ9_min_7cf53 : ByteArray := prog_15_method_69_code
def yJ9_min_7cf53 : MethodName := ⟨RJ9, "min", "(II)I"⟩
abbrev cJ9_min_f86c9 : ByteArray := prog_15_method_70_code
def yJ9_min_f86c9 : MethodName := ⟨RJ9, "min", "(JJ)J"⟩
def RJ0 : String := "java/lang/String"
abbrev cJ0_length_8abf5 : ByteArray := prog_16_method_54_code
def yJ0_length_8abf5 : MethodName := ⟨RJ0, "length", "()I"⟩
abbrev cJ0_indexOf_0f7a4 : ByteArray := prog_16_method_79_code
def yJ0_indexOf_0f7a4 : MethodName := ⟨RJ0, "indexOf", "(I)I"⟩
abbrev cJ0_indexOf_7cf53 : ByteArray := prog_16_method_80_code
def yJ0_indexOf_7cf53 : MethodName := ⟨RJ0, "indexOf", "(II)I"⟩
abbrev cJ0_coder_7d493 : ByteArray := prog_16_method_152_code
def yJ0_coder_7d493 : MethodName := ⟨RJ0, "coder", "()B"⟩
abbrev cJ0_isLatin1_aae02 : ByteArray := prog_16_method_154_code
def yJ0_isLatin1_aae02 : MethodName := ⟨RJ0, "isLatin1", "()Z"⟩
abbrev cJ0_checkBoundsBeginEnd_23922 : ByteArray := prog_16_method_158_code
def yJ0_checkBoundsBeginEnd_23922 : MethodName := ⟨RJ0, "checkBoundsBeginEnd", "(III)V"⟩
def RJ1 : String := "java/lang/StringLatin1"
abbrev cJ1_canEncode_9a6ad : ByteArray := prog_17_method_4_code
def yJ1_canEncode_9a6ad : MethodName := ⟨RJ1, "canEncode", "(I)Z"⟩
abbrev cJ1_indexOf_4cfef : ByteArray := prog_17_method_22_code
def yJ1_indexOf_4cfef : MethodName := ⟨RJ1, "indexOf", "([BIII)I"⟩
abbrev cJ1_indexOfChar_4cfef : ByteArray := prog_17_method_23_code
def yJ1_indexOfChar_4cfef : MethodName := ⟨RJ1, "indexOfChar", "([BIII)I"⟩
def RJ2 : String := "java/lang/StringUTF16"
abbrev cJ2_getChar_3b067 : ByteArray := prog_18_method_5_code
def yJ2_getChar_3b067 : MethodName := ⟨RJ2, "getChar", "([BI)C"⟩
abbrev cJ2_length_9d52b : ByteArray := prog_18_method_6_code
def yJ2_length_9d52b : MethodName := ⟨RJ2, "length", "([B)I"⟩
abbrev cJ2_indexOf_4cfef : ByteArray := prog_18_method_40_code
def yJ2_indexOf_4cfef : MethodName := ⟨RJ2, "indexOf", "([BIII)I"⟩
abbrev cJ2_indexOfChar_4cfef : ByteArray := prog_18_method_47_code
def yJ2_indexOfChar_4cfef : MethodName := ⟨RJ2, "indexOfChar", "([BIII)I"⟩
abbrev cJ2_indexOfCharUnsafe_4cfef : ByteArray := prog_18_method_48_code
def yJ2_indexOfCharUnsafe_4cfef : MethodName := ⟨RJ2, "indexOfCharUnsafe", "([BIII)I"⟩
abbrev cJ2_indexOfSupplementary_4cfef : ByteArray := prog_18_method_49_code
def yJ2_indexOfSupplementary_4cfef : MethodName := ⟨RJ2, "indexOfSupplementary", "([BIII)I"⟩
abbrev cJ2_checkBoundsBeginEnd_d044e : ByteArray := prog_18_method_93_code
def yJ2_checkBoundsBeginEnd_d044e : MethodName := ⟨RJ2, "checkBoundsBeginEnd", "(II[B)V"⟩
def RJ10 : String := "java/lang/System"
def RJ7 : String := "java/util/Arrays"
abbrev cJ7_fill_d0a16 : ByteArray := prog_20_method_101_code
def yJ7_fill_d0a16 : MethodName := ⟨RJ7, "fill", "([JJ)V"⟩
abbrev cJ7_fill_53178 : ByteArray := prog_20_method_103_code
def yJ7_fill_53178 : MethodName := ⟨RJ7, "fill", "([II)V"⟩
def RJ3 : String := "jdk/internal/util/Preconditions"
abbrev cJ3_checkFromToIndex_8c36e : ByteArray := prog_21_method_12_code
def yJ3_checkFromToIndex_8c36e : MethodName := ⟨RJ3, "checkFromToIndex", "(IIILjava/util/function/BiFunction;)I"⟩
def RL : String := "PaidDebtsLaw"
abbrev cL_law : ByteArray := code
def yL_law : MethodName := ⟨RL, "law", "([I)Z"⟩
abbrev vwCl : List vw_C := [(RX0, TX0, 5), (RX1, TX1, 14), (RX2, TX2, 3), (RX3, TX3, 3), (RX4, TX4, 4), (RX5, TX5, 4), (RX6, TX6, 2), (RX7, TX7, 7), (RX8, TX8, 8), (RX9, TX9, 29)]
theorem inX0 : ∀ w ∈ wsX00, w ∈ lw_tbl := by decide +kernel
theorem inX1 : ∀ w ∈ wsX10, w ∈ lw_tbl := by decide +kernel
theorem inX2 : ∀ w ∈ wsX20, w ∈ lw_tbl := by decide +kernel
theorem inX3 : ∀ w ∈ wsX30, w ∈ lw_tbl := by decide +kernel
theorem inX4 : ∀ w ∈ wsX40, w ∈ lw_tbl := by decide +kernel
theorem inX5 : ∀ w ∈ wsX50, w ∈ lw_tbl := by decide +kernel
theorem inX6 : ∀ w ∈ wsX60, w ∈ lw_tbl := by decide +kernel
theorem inX7 : ∀ w ∈ wsX70, w ∈ lw_tbl := by decide +kernel
theorem inX8 : ∀ w ∈ wsX80, w ∈ lw_tbl := by decide +kernel
theorem inX9 : ∀ w ∈ wsX90, w ∈ lw_tbl := by decide +kernel
